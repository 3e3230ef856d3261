/-! give: the class's way, pure: gains, bests, shares -/
def gaV (t : Nat → Int) (d p x : Nat) : Int := if t (24 + p) + (x : Int) ≤ 99 then taF t p d (t (24 + p) + (x : Int)) (t 0) else NONE
def ghF (a b : Int) : Int := if a = NONE ∨ b = NONE then NONE else a + b
def mxF (f : Nat → Int) : Nat → Int
  | 0 => NONE
  | k + 1 => max (mxF f k) (f k)
theorem mxF_s {f : Nat → Int} {k : Nat} : mxF f (k + 1) = max (mxF f k) (f k) := rfl
def beF (t : Nat → Int) (d m : Nat) : Nat → Nat → Int
  | 0, n => if n = 0 then 0 else NONE
  | r + 1, n => mxF (fun x => ghF (gaV t d (m - (r + 1)) x) (beF t d m r (n - x))) (n + 1)
theorem beF_s {t : Nat → Int} {d m r n : Nat} : beF t d m (r + 1) n = mxF (fun x => ghF (gaV t d (m - (r + 1)) x) (beF t d m r (n - x))) (n + 1) := rfl
theorem mxF_ge {f : Nat → Int} : ∀ k x, x < k → f x ≤ mxF f k
  | 0, x, h => by omega
  | k + 1, x, h => by
    rw [mxF_s]
    by_cases e : x = k
    · subst e
      omega
    · have := mxF_ge (f := f) k x (by omega)
      omega
theorem mxF_at {f : Nat → Int} : ∀ k, mxF f k = NONE ∨ ∃ x, x < k ∧ mxF f k = f x
  | 0 => Or.inl rfl
  | k + 1 => by
    rw [mxF_s]
    rcases mxF_at (f := f) k with h | ⟨x, h1, h2⟩
    · by_cases e : mxF f k ≤ f k
      · exact Or.inr ⟨k, by omega, by omega⟩
      · exact Or.inl (by omega)
    · by_cases e : mxF f k ≤ f k
      · exact Or.inr ⟨k, by omega, by omega⟩
      · exact Or.inr ⟨x, by omega, by omega⟩
theorem gaV_in {B : Int} {t : Nat → Int} {d p x : Nat} (h : cok B t) (hp : (p : Int) < t 3) (hd : d ≤ 60) : gaV t d p x = NONE ∨ (0 ≤ gaV t d p x ∧ gaV t d p x ≤ 1740) := by
  unfold gaV
  split
  · have := taF_in h hp d (t (24 + p) + (x : Int)) (t 0)
    omega
  · exact Or.inl rfl
theorem ghF_in {a b A : Int} (hA : 0 ≤ A) (ha : a = NONE ∨ (0 ≤ a ∧ a ≤ 1740)) (hb : b = NONE ∨ (0 ≤ b ∧ b ≤ A)) : ghF a b = NONE ∨ (0 ≤ ghF a b ∧ ghF a b ≤ A + 1740) := by
  have hNN : (NONE : Int) = -1000000 := rfl
  unfold ghF
  split
  · exact Or.inl rfl
  · rename_i h
    omega
theorem beF_in {B : Int} {t : Nat → Int} {d m : Nat} (h : cok B t) (hm : t 3 = (m : Int)) (hd : d ≤ 60) : ∀ r, r ≤ m → ∀ n, beF t d m r n = NONE ∨ (0 ≤ beF t d m r n ∧ beF t d m r n ≤ 1740 * (r : Int))
  | 0, _, n => by
    show (if n = 0 then (0 : Int) else NONE) = NONE ∨ (0 ≤ (if n = 0 then (0 : Int) else NONE) ∧ (if n = 0 then (0 : Int) else NONE) ≤ _)
    split
    · exact Or.inr ⟨by omega, by omega⟩
    · exact Or.inl rfl
  | r + 1, hr, n => by
    rw [beF_s]
    rcases mxF_at (f := fun x => ghF (gaV t d (m - (r + 1)) x) (beF t d m r (n - x))) (n + 1) with e | ⟨x, h1, h2⟩
    · exact Or.inl e
    · rw [h2]
      have ih := beF_in h hm hd r (by omega) (n - x)
      have hg := gaV_in (x := x) (p := m - (r + 1)) h (by omega) hd
      have := ghF_in (A := 1740 * (r : Int)) (by omega) hg ih
      rw [nsucc]
      rcases this with e | e
      · exact Or.inl e
      · exact Or.inr ⟨e.1, by have := e.2; omega⟩
theorem NF_s {g : Nat → Nat} {p : Nat} : NF g (p + 1) = NF g p + (g p : Int) := rfl
theorem VF_s {t : Nat → Int} {d : Nat} {g : Nat → Nat} {p : Nat} : VF t d g (p + 1) = VF t d g p + taF t p d (t (24 + p) + (g p : Int)) (t 0) := rfl
/-- no give of the last r piers takes more -/
theorem beF_ub {B : Int} {t : Nat → Int} {d m : Nat} {g : Nat → Nat} (h : cok B t) (hm : t 3 = (m : Int)) (hd : d ≤ 60) : ∀ r, r ≤ m → (∀ p, m - r ≤ p → p < m → t (24 + p) + (g p : Int) ≤ 99) → ∀ n : Nat, (n : Int) = NF g m - NF g (m - r) → beF t d m r n ≠ NONE ∧ VF t d g m - VF t d g (m - r) ≤ beF t d m r n
  | 0, _, _, n, hn => by
    rw [Nat.sub_zero] at hn
    have e : n = 0 := by omega
    subst e
    rw [Nat.sub_zero]
    have e0 : beF t d m 0 0 = 0 := rfl
    rw [e0]
    exact ⟨by decide, by omega⟩
  | r + 1, hr, hg, n, hn => by
    have hNN : (NONE : Int) = -1000000 := rfl
    obtain ⟨q, hq⟩ : ∃ q, q = m - (r + 1) := ⟨_, rfl⟩
    have hq1 : m - r = q + 1 := by omega
    have eN := NF_s (g := g) (p := q)
    have eV := VF_s (t := t) (d := d) (g := g) (p := q)
    have hmono := gsF_mono (f := fun p => (g p : Int)) (q := q + 1) m (by omega) (fun p _ _ => Int.natCast_nonneg _)
    have hm1 : NF g (q + 1) ≤ NF g m := hmono
    rw [← hq] at hn ⊢
    have hx : g q ≤ n := by omega
    have ih := beF_ub h hm hd r (by omega) (fun p h1 h2 => hg p (by omega) h2) (n - g q) (by rw [hq1]; omega)
    rw [hq1] at ih
    have h0 := taF_in h (p := q) (by omega) d (t (24 + q) + (g q : Int)) (t 0)
    have hga : gaV t d q (g q) = taF t q d (t (24 + q) + (g q : Int)) (t 0) := by
      unfold gaV
      rw [if_pos (hg q (by omega) (by omega))]
    have hgh : ghF (gaV t d q (g q)) (beF t d m r (n - g q)) = taF t q d (t (24 + q) + (g q : Int)) (t 0) + beF t d m r (n - g q) := by
      unfold ghF
      rw [hga, if_neg (by omega)]
    have hge := mxF_ge (f := fun x => ghF (gaV t d (m - (r + 1)) x) (beF t d m r (n - x))) (n + 1) (g q) (by omega)
    rw [beF_s]
    rw [← hq] at hge ⊢
    have hge : ghF (gaV t d q (g q)) (beF t d m r (n - g q)) ≤ mxF (fun x => ghF (gaV t d q x) (beF t d m r (n - x))) (n + 1) := hge
    have hbi := beF_in h hm hd r (by omega) (n - g q)
    rw [hgh] at hge
    have ih1 := ih.1
    have ih2 := ih.2
    omega
/-- and one takes so much -/
theorem beF_at {B : Int} {t : Nat → Int} {d m : Nat} (h : cok B t) (hm : t 3 = (m : Int)) (hd : d ≤ 60) : ∀ r, r ≤ m → ∀ n : Nat, beF t d m r n ≠ NONE → ∃ g : Nat → Nat, (∀ p, m - r ≤ p → p < m → t (24 + p) + (g p : Int) ≤ 99) ∧ NF g m - NF g (m - r) = (n : Int) ∧ VF t d g m - VF t d g (m - r) = beF t d m r n
  | 0, _, n, hn => by
    have e : n = 0 := by
      by_cases e : n = 0
      · exact e
      · exfalso
        apply hn
        show (if n = 0 then (0 : Int) else NONE) = NONE
        rw [if_neg e]
    subst e
    refine ⟨fun _ => 0, fun p h1 h2 => by omega, by rw [Nat.sub_zero]; omega, ?_⟩
    rw [Nat.sub_zero]
    have e0 : beF t d m 0 0 = 0 := rfl
    rw [e0]
    omega
  | r + 1, hr, n, hn => by
    obtain ⟨q, hq⟩ : ∃ q, q = m - (r + 1) := ⟨_, rfl⟩
    have hq1 : m - r = q + 1 := by omega
    rw [beF_s] at hn
    rcases mxF_at (f := fun x => ghF (gaV t d (m - (r + 1)) x) (beF t d m r (n - x))) (n + 1) with e | ⟨x, hx, e⟩
    · exact absurd e hn
    · have e2 : beF t d m (r + 1) n = ghF (gaV t d q x) (beF t d m r (n - x)) := by rw [beF_s, e, hq]
      rw [e, ← hq] at hn
      have hn : ghF (gaV t d q x) (beF t d m r (n - x)) ≠ NONE := hn
      have hn2 : ¬ (gaV t d q x = NONE ∨ beF t d m r (n - x) = NONE) := fun hh => hn (by unfold ghF; rw [if_pos hh])
      have hb : beF t d m r (n - x) ≠ NONE := fun hh => hn2 (Or.inr hh)
      have hgx : gaV t d q x ≠ NONE := fun hh => hn2 (Or.inl hh)
      have hok : t (24 + q) + (x : Int) ≤ 99 := by
        by_cases h9 : t (24 + q) + (x : Int) ≤ 99
        · exact h9
        · exact absurd (by unfold gaV; rw [if_neg h9]) hgx
      have hga : gaV t d q x = taF t q d (t (24 + q) + (x : Int)) (t 0) := by
        unfold gaV
        rw [if_pos hok]
      obtain ⟨g, g1, g2, g3⟩ := beF_at h hm hd r (by omega) (n - x) hb
      rw [hq1] at g1 g2 g3
      have eN : NF (fun p => if p = q then x else g p) m - NF (fun p => if p = q then x else g p) (q + 1) = NF g m - NF g (q + 1) := gsF_tail m (by omega) (fun p h1 h2 => by
        show (((if p = q then x else g p) : Nat) : Int) = (g p : Int)
        rw [if_neg (by omega)])
      have eV : VF t d (fun p => if p = q then x else g p) m - VF t d (fun p => if p = q then x else g p) (q + 1) = VF t d g m - VF t d g (q + 1) := gsF_tail m (by omega) (fun p h1 h2 => by
        show taF t p d (t (24 + p) + (((if p = q then x else g p) : Nat) : Int)) (t 0) = taF t p d (t (24 + p) + (g p : Int)) (t 0)
        rw [if_neg (by omega)])
      have sN : NF (fun p => if p = q then x else g p) (q + 1) = NF (fun p => if p = q then x else g p) q + (x : Int) := by
        rw [NF_s]
        show NF (fun p => if p = q then x else g p) q + (((if q = q then x else g q) : Nat) : Int) = _
        rw [if_pos rfl]
      have sV : VF t d (fun p => if p = q then x else g p) (q + 1) = VF t d (fun p => if p = q then x else g p) q + taF t q d (t (24 + q) + (x : Int)) (t 0) := by
        rw [VF_s]
        show VF t d (fun p => if p = q then x else g p) q + taF t q d (t (24 + q) + (((if q = q then x else g q) : Nat) : Int)) (t 0) = _
        rw [if_pos rfl]
      have e3 : ghF (gaV t d q x) (beF t d m r (n - x)) = gaV t d q x + beF t d m r (n - x) := by
        unfold ghF
        rw [if_neg hn2]
      refine ⟨fun p => if p = q then x else g p, fun p h1 h2 => ?_, ?_, ?_⟩
      · show t (24 + p) + (((if p = q then x else g p) : Nat) : Int) ≤ 99
        by_cases hp : p = q
        · subst hp
          rw [if_pos rfl]
          exact hok
        · rw [if_neg hp]
          exact g1 p (by omega) h2
      · rw [← hq]
        omega
      · rw [← hq, e2, e3, hga]
        omega
theorem gvK_c {t : Nat → Int} {I m : Nat} {g h : Nat → Nat} (e : ∀ p, p < m → h p = g p) (k : gvK t I m g) : gvK t I m h := ⟨fun p hp => by rw [e p hp]; exact k.1 p hp, by
  have : NF h m = NF g m := gsF_c _ (fun p hp => by rw [e p hp])
  rw [this]
  exact k.2⟩
theorem NF_c {m : Nat} {g h : Nat → Nat} (e : ∀ p, p < m → h p = g p) : NF h m = NF g m := gsF_c _ (fun p hp => by rw [e p hp])
theorem VF_c {t : Nat → Int} {d m : Nat} {g h : Nat → Nat} (e : ∀ p, p < m → h p = g p) : VF t d h m = VF t d g m := gsF_c _ (fun p hp => by rw [e p hp])
theorem pwF_mono {t : Nat → Int} {x y : Int} (h : x ≤ y) : pwF t x ≤ pwF t y := by
  unfold pwF
  omega
/-- what fewestOfBest finds -/
def fwP (t : Nat → Int) (d I m n0 : Nat) : Prop := n0 ≤ I ∧ beF t d m m n0 ≠ NONE ∧ ∀ n, n ≤ I → beF t d m m n ≠ NONE → pwF t (beF t d m m n) ≤ pwF t (beF t d m m n0) ∧ (pwF t (beF t d m m n) = pwF t (beF t d m m n0) → n0 ≤ n)
theorem gv_class {B : Int} {t : Nat → Int} {d I m n0 c : Nat} (h : cok B t) (hm : t 3 = (m : Int)) (hd : d ≤ 60) (hI : I ≤ 9) (hf : fwP t d I m n0) (hc : gvB t d I m c) : pwF t (VF t d (dgF m c) m) = pwF t (beF t d m m n0) ∧ NF (dgF m c) m = (n0 : Int) := by
  obtain ⟨f1, f2, f3⟩ := hf
  have h0V : ∀ g, VF t d g 0 = 0 := fun g => rfl
  have h0N : ∀ g, NF g 0 = 0 := fun g => rfl
  obtain ⟨g, g1, g2, g3⟩ := beF_at h hm hd m (Nat.le_refl _) n0 f2
  rw [Nat.sub_self] at g1 g2 g3
  rw [h0N] at g2
  rw [h0V] at g3
  have g9 : ∀ p, p < m → g p ≤ 9 := fun p hp => by
    have := NF_le (g := g) hp
    omega
  have ek := cd_dg m g9
  have kK : gvK t I m g := ⟨fun p hp => g1 p (Nat.zero_le _) hp, by omega⟩
  have hs := hc.2.2 (cdF g m) (cd_lt m g9) (gvK_c ek kK)
  rw [NF_c ek, VF_c ek] at hs
  have hn := NF_nn (g := dgF m c) (m := m)
  have hub := beF_ub (g := dgF m c) h hm hd m (Nat.le_refl _) (fun p _ hp => hc.2.1.1 p hp) (NF (dgF m c) m).toNat (by rw [Nat.sub_self, h0N]; omega)
  rw [Nat.sub_self, h0V] at hub
  have hk2 := hc.2.1.2
  have hx := f3 (NF (dgF m c) m).toNat (by omega) hub.1
  have hmo := pwF_mono (t := t) (x := VF t d (dgF m c) m) (y := beF t d m m (NF (dgF m c) m).toNat) (by have := hub.2; omega)
  have e1 : pwF t (VF t d g m) = pwF t (beF t d m m n0) := by rw [show VF t d g m = beF t d m m n0 by omega]
  rw [e1] at hs
  omega
theorem gv_share {B : Int} {t : Nat → Int} {d I m n0 c : Nat} {s : Nat → Nat} (h : cok B t) (hm : t 3 = (m : Int)) (hd : d ≤ 60) (hI : I ≤ 9) (hf : fwP t d I m n0) (hc : gvB t d I m c) (s1 : ∀ p, p < m → t (24 + p) + (s p : Int) ≤ 99) (s2 : NF s m = (n0 : Int)) (s3 : pwF t (VF t d s m) = pwF t (beF t d m m n0))
    (s4 : ∀ g : Nat → Nat, gvK t I m g → NF g m = (n0 : Int) → pwF t (VF t d g m) = pwF t (beF t d m m n0) → ∀ q, q < m → (∀ r, r < q → g r = s r) → s q ≤ g q) : ∀ p, p < m → dgF m c p = s p := by
  obtain ⟨c1, c2⟩ := gv_class h hm hd hI hf hc
  have f1 := hf.1
  have g9 : ∀ p, p < m → s p ≤ 9 := fun p hp => by
    have := NF_le (g := s) hp
    omega
  have ek := cd_dg m g9
  have hs := hc.2.2 (cdF s m) (cd_lt m g9) (gvK_c ek ⟨s1, by omega⟩)
  rw [NF_c ek, VF_c ek] at hs
  by_cases hcc : c < cdF s m
  · exfalso
    obtain ⟨q, q1, q2, q3⟩ := dg_lex m c (cdF s m) hcc (cd_lt m g9)
    have := s4 (dgF m c) hc.2.1 c2 c1 q q1 (fun r hr => (q2 r hr).trans (ek r (by omega)))
    rw [ek q q1] at q3
    omega
  · have e : c = cdF s m := by omega
    rw [e]
    exact ek
/-- the shares, one pier behind another -/
def ghV (t : Nat → Int) (d m p x n : Nat) : Int := ghF (gaV t d p x) (beF t d m (m - (p + 1)) (n - x))
def fsF (t : Nat → Int) (d m : Nat) (most : Int) (p left : Nat) (gd : Int) : Nat → Nat → Nat
  | 0, x => x
  | n + 1, x => if ghV t d m p x left ≠ NONE ∧ pwF t (gd + ghV t d m p x left) = most then x else fsF t d m most p left gd n (x + 1)
theorem fsF_s {t : Nat → Int} {d m : Nat} {most : Int} {p left : Nat} {gd : Int} {n x : Nat} : fsF t d m most p left gd (n + 1) x = if ghV t d m p x left ≠ NONE ∧ pwF t (gd + ghV t d m p x left) = most then x else fsF t d m most p left gd n (x + 1) := rfl
theorem fsF_p {t : Nat → Int} {d m : Nat} {most : Int} {p left : Nat} {gd : Int} : ∀ n x, x ≤ fsF t d m most p left gd n x ∧ fsF t d m most p left gd n x ≤ x + n ∧ (∀ y, x ≤ y → y < fsF t d m most p left gd n x → ¬ (ghV t d m p y left ≠ NONE ∧ pwF t (gd + ghV t d m p y left) = most)) ∧ (fsF t d m most p left gd n x < x + n → ghV t d m p (fsF t d m most p left gd n x) left ≠ NONE ∧ pwF t (gd + ghV t d m p (fsF t d m most p left gd n x) left) = most)
  | 0, x => by
    have e : fsF t d m most p left gd 0 x = x := rfl
    rw [e]
    exact ⟨by omega, by omega, fun y h1 h2 => by omega, fun h => by omega⟩
  | n + 1, x => by
    rw [fsF_s]
    by_cases c : ghV t d m p x left ≠ NONE ∧ pwF t (gd + ghV t d m p x left) = most
    · rw [if_pos c]
      exact ⟨by omega, by omega, fun y h1 h2 => by omega, fun _ => c⟩
    · rw [if_neg c]
      obtain ⟨i1, i2, i3, i4⟩ := fsF_p (t := t) (d := d) (m := m) (most := most) (p := p) (left := left) (gd := gd) n (x + 1)
      refine ⟨by omega, by omega, fun y h1 h2 => ?_, fun h => i4 (by omega)⟩
      by_cases e : y = x
      · subst e
        exact c
      · exact i3 y (by omega) h2
def shP (t : Nat → Int) (d m n0 : Nat) (most : Int) : Nat → Nat × Int
  | 0 => (n0, 0)
  | p + 1 => ((shP t d m n0 most p).1 - fsF t d m most p (shP t d m n0 most p).1 (shP t d m n0 most p).2 (shP t d m n0 most p).1 0, (shP t d m n0 most p).2 + gaV t d p (fsF t d m most p (shP t d m n0 most p).1 (shP t d m n0 most p).2 (shP t d m n0 most p).1 0))
def shS (t : Nat → Int) (d m n0 : Nat) (most : Int) (p : Nat) : Nat := fsF t d m most p (shP t d m n0 most p).1 (shP t d m n0 most p).2 (shP t d m n0 most p).1 0
theorem shP_s {t : Nat → Int} {d m n0 : Nat} {most : Int} {p : Nat} : shP t d m n0 most (p + 1) = ((shP t d m n0 most p).1 - shS t d m n0 most p, (shP t d m n0 most p).2 + gaV t d p (shS t d m n0 most p)) := rfl
theorem sh_step {B : Int} {t : Nat → Int} {d m n0 : Nat} {most : Int} {p : Nat} (h : cok B t) (hm : t 3 = (m : Int)) (hd : d ≤ 60) (hp : p < m) (i1 : beF t d m (m - p) (shP t d m n0 most p).1 ≠ NONE) (i2 : pwF t ((shP t d m n0 most p).2 + beF t d m (m - p) (shP t d m n0 most p).1) = most) : shS t d m n0 most p ≤ (shP t d m n0 most p).1 ∧ ghV t d m p (shS t d m n0 most p) (shP t d m n0 most p).1 ≠ NONE ∧ pwF t ((shP t d m n0 most p).2 + ghV t d m p (shS t d m n0 most p) (shP t d m n0 most p).1) = most := by
  obtain ⟨f1, f2, f3, f4⟩ := fsF_p (t := t) (d := d) (m := m) (most := most) (p := p) (left := (shP t d m n0 most p).1) (gd := (shP t d m n0 most p).2) (shP t d m n0 most p).1 0
  have e0 : fsF t d m most p (shP t d m n0 most p).1 (shP t d m n0 most p).2 (shP t d m n0 most p).1 0 = shS t d m n0 most p := rfl
  rw [e0] at f1 f2 f3 f4
  have hr : m - p = (m - (p + 1)) + 1 := by omega
  have hpp : m - (m - (p + 1) + 1) = p := by omega
  rw [hr] at i1 i2
  rw [beF_s, hpp] at i1 i2
  rcases mxF_at (f := fun x => ghF (gaV t d p x) (beF t d m (m - (p + 1)) ((shP t d m n0 most p).1 - x))) ((shP t d m n0 most p).1 + 1) with e | ⟨y, hy, e⟩
  · exact absurd e i1
  · rw [e] at i1 i2
    have i1 : ghV t d m p y (shP t d m n0 most p).1 ≠ NONE := i1
    have i2 : pwF t ((shP t d m n0 most p).2 + ghV t d m p y (shP t d m n0 most p).1) = most := i2
    by_cases c : shS t d m n0 most p < (shP t d m n0 most p).1
    · exact ⟨by omega, f4 (by omega)⟩
    · have hyy : ¬ y < shS t d m n0 most p := fun hh => f3 y (by omega) hh ⟨i1, i2⟩
      have ey : y = shS t d m n0 most p := by omega
      rw [← ey]
      exact ⟨by omega, i1, i2⟩
theorem ghV_ne {t : Nat → Int} {d m p x n : Nat} (h : ghV t d m p x n ≠ NONE) : (t (24 + p) + (x : Int) ≤ 99 ∧ gaV t d p x = taF t p d (t (24 + p) + (x : Int)) (t 0)) ∧ beF t d m (m - (p + 1)) (n - x) ≠ NONE ∧ ghV t d m p x n = gaV t d p x + beF t d m (m - (p + 1)) (n - x) := by
  have hn2 : ¬ (gaV t d p x = NONE ∨ beF t d m (m - (p + 1)) (n - x) = NONE) := fun hh => h (by unfold ghV ghF; rw [if_pos hh])
  have hok : t (24 + p) + (x : Int) ≤ 99 := by
    by_cases h9 : t (24 + p) + (x : Int) ≤ 99
    · exact h9
    · exact absurd (Or.inl (by unfold gaV; rw [if_neg h9])) hn2
  exact ⟨⟨hok, by unfold gaV; rw [if_pos hok]⟩, fun hh => hn2 (Or.inr hh), by unfold ghV ghF; rw [if_neg hn2]⟩
theorem sh_inv {B : Int} {t : Nat → Int} {d I m n0 : Nat} (h : cok B t) (hm : t 3 = (m : Int)) (hd : d ≤ 60) (hf : fwP t d I m n0) : ∀ p, p ≤ m → (beF t d m (m - p) (shP t d m n0 (pwF t (beF t d m m n0)) p).1 ≠ NONE ∧ pwF t ((shP t d m n0 (pwF t (beF t d m m n0)) p).2 + beF t d m (m - p) (shP t d m n0 (pwF t (beF t d m m n0)) p).1) = pwF t (beF t d m m n0)) ∧ ((shP t d m n0 (pwF t (beF t d m m n0)) p).1 : Int) = (n0 : Int) - NF (shS t d m n0 (pwF t (beF t d m m n0))) p ∧ (shP t d m n0 (pwF t (beF t d m m n0)) p).2 = VF t d (shS t d m n0 (pwF t (beF t d m m n0))) p
  | 0, _ => by
    have e1 : (shP t d m n0 (pwF t (beF t d m m n0)) 0).1 = n0 := rfl
    have e2 : (shP t d m n0 (pwF t (beF t d m m n0)) 0).2 = 0 := rfl
    rw [e1, e2, Nat.sub_zero, Int.zero_add]
    exact ⟨⟨hf.2.1, rfl⟩, by show (n0 : Int) = (n0 : Int) - 0; omega, rfl⟩
  | p + 1, hp => by
    obtain ⟨⟨i1, i2⟩, i3, i4⟩ := sh_inv h hm hd hf p (by omega)
    obtain ⟨s1, s2, s3⟩ := sh_step h hm hd (by omega) i1 i2
    obtain ⟨⟨n1, n2⟩, n3, n4⟩ := ghV_ne s2
    rw [n4] at s3
    rw [shP_s, NF_s, VF_s]
    refine ⟨⟨n3, ?_⟩, ?_, ?_⟩
    · rw [Int.add_assoc]
      exact s3
    · show (((shP t d m n0 (pwF t (beF t d m m n0)) p).1 - shS t d m n0 (pwF t (beF t d m m n0)) p : Nat) : Int) = _
      omega
    · show (shP t d m n0 (pwF t (beF t d m m n0)) p).2 + gaV t d p (shS t d m n0 (pwF t (beF t d m m n0)) p) = _
      rw [n2, i4]
theorem sh_all {B : Int} {t : Nat → Int} {d I m n0 c : Nat} (h : cok B t) (hm : t 3 = (m : Int)) (hd : d ≤ 60) (hI : I ≤ 9) (hf : fwP t d I m n0) (hc : gvB t d I m c) : ∀ p, p < m → dgF m c p = shS t d m n0 (pwF t (beF t d m m n0)) p := by
  have hi := fun p hp => sh_inv h hm hd hf p hp
  have hst := fun p (hp : p < m) => sh_step (p := p) h hm hd hp (hi p (by omega)).1.1 (hi p (by omega)).1.2
  have hend := hi m (Nat.le_refl _)
  rw [Nat.sub_self] at hend
  have hz : (shP t d m n0 (pwF t (beF t d m m n0)) m).1 = 0 := by
    by_cases e : (shP t d m n0 (pwF t (beF t d m m n0)) m).1 = 0
    · exact e
    · exfalso
      apply hend.1.1
      show (if (shP t d m n0 (pwF t (beF t d m m n0)) m).1 = 0 then (0 : Int) else NONE) = NONE
      rw [if_neg e]
  obtain ⟨⟨w1, w2⟩, w3, w4⟩ := hend
  rw [hz] at w2 w3
  have e0 : beF t d m 0 0 = 0 := rfl
  rw [e0, Int.add_zero, w4] at w2
  refine gv_share h hm hd hI hf hc (fun p hp => (ghV_ne (hst p hp).2.1).1.1) (by omega) w2 ?_
  intro g gk gn gv q hq hr
  by_cases hlt : g q < shS t d m n0 (pwF t (beF t d m m n0)) q
  · exfalso
    obtain ⟨⟨i1, i2⟩, i3, i4⟩ := hi q (by omega)
    have eN : NF g q = NF (shS t d m n0 (pwF t (beF t d m m n0))) q := NF_c hr
    have eV : VF t d g q = VF t d (shS t d m n0 (pwF t (beF t d m m n0))) q := VF_c hr
    have sN := NF_s (g := g) (p := q)
    have sV := VF_s (t := t) (d := d) (g := g) (p := q)
    have hs1 := (hst q hq).1
    have hmq : m - (m - (q + 1)) = q + 1 := by omega
    have hub := beF_ub (g := g) h hm hd (m - (q + 1)) (by omega) (fun p _ hp => gk.1 p hp) ((shP t d m n0 (pwF t (beF t d m m n0)) q).1 - g q) (by rw [hmq]; omega)
    rw [hmq] at hub
    have hNN : (NONE : Int) = -1000000 := rfl
    have h0 := taF_in h (p := q) (by omega) d (t (24 + q) + (g q : Int)) (t 0)
    have hga : gaV t d q (g q) = taF t q d (t (24 + q) + (g q : Int)) (t 0) := by
      unfold gaV
      rw [if_pos (gk.1 q hq)]
    have hgh : ghV t d m q (g q) (shP t d m n0 (pwF t (beF t d m m n0)) q).1 = taF t q d (t (24 + q) + (g q : Int)) (t 0) + beF t d m (m - (q + 1)) ((shP t d m n0 (pwF t (beF t d m m n0)) q).1 - g q) := by
      unfold ghV ghF
      rw [hga, if_neg (by have := hub.1; omega)]
    have hbi := beF_in h hm hd (m - (q + 1)) (by omega) ((shP t d m n0 (pwF t (beF t d m m n0)) q).1 - g q)
    obtain ⟨f1, f2, f3, f4⟩ := fsF_p (t := t) (d := d) (m := m) (most := pwF t (beF t d m m n0)) (p := q) (left := (shP t d m n0 (pwF t (beF t d m m n0)) q).1) (gd := (shP t d m n0 (pwF t (beF t d m m n0)) q).2) (shP t d m n0 (pwF t (beF t d m m n0)) q).1 0
    have hub1 := hub.1
    have hub2 := hub.2
    refine f3 (g q) (by omega) hlt ⟨by rw [hgh]; omega, ?_⟩
    have hr2 : m - q = (m - (q + 1)) + 1 := by omega
    have hpp : m - (m - (q + 1) + 1) = q := by omega
    have hge := mxF_ge (f := fun x => ghF (gaV t d q x) (beF t d m (m - (q + 1)) ((shP t d m n0 (pwF t (beF t d m m n0)) q).1 - x))) ((shP t d m n0 (pwF t (beF t d m m n0)) q).1 + 1) (g q) (by omega)
    have hge : ghV t d m q (g q) (shP t d m n0 (pwF t (beF t d m m n0)) q).1 ≤ mxF (fun x => ghF (gaV t d q x) (beF t d m (m - (q + 1)) ((shP t d m n0 (pwF t (beF t d m m n0)) q).1 - x))) ((shP t d m n0 (pwF t (beF t d m m n0)) q).1 + 1) := hge
    rw [hr2, beF_s, hpp] at i2
    have up := pwF_mono (t := t) (Int.add_le_add_left hge (shP t d m n0 (pwF t (beF t d m m n0)) q).2)
    have lo := pwF_mono (t := t) (x := VF t d g m) (y := (shP t d m n0 (pwF t (beF t d m m n0)) q).2 + ghV t d m q (g q) (shP t d m n0 (pwF t (beF t d m m n0)) q).1) (by rw [hgh]; omega)
    omega
  · omega
