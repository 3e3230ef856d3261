/-! THE STATE: what class and reference both hold, α by component: 0 numbers (status, letters, fault, acts, trace, kept 0, kept 1), 1 lanes, 2 sizes, 3 items, 4 tape, 5 the coast, 6 7 images, 8 trace, 10 on the acts -/
def Crow (σ : Mem) (a1 a2 a3 : Nat → Int) : Prop := (∀ r, r < 8 → σ 2 r = a1 r + 1 ∧ σ 3 r = a2 r) ∧ ∀ i, i < 320 → σ 4 i = a3 i
def Cact (σ : Mem) (n many : Int) (A : Nat → Nat → Int) : Prop := σ 28 2 = n ∧ ∃ nx : Nat, nx < 24 ∧ σ 28 1 = (nx : Int) ∧ ∀ j : Nat, (j : Int) < n → σ 29 (13 * ((nx + 24 - n.toNat + j) % 24)) = A (10 + j) 0 ∧ σ 29 (13 * ((nx + 24 - n.toNat + j) % 24) + 1) = A (10 + j) 1 ∧ σ 29 (13 * ((nx + 24 - n.toNat + j) % 24) + 2) = A (10 + j) 2 ∧ ∀ p : Nat, (p : Int) < many → σ 29 (13 * ((nx + 24 - n.toNat + j) % 24) + 3 + p) = A (10 + j) (24 + p) ∧ σ 29 (13 * ((nx + 24 - n.toNat + j) % 24) + 8 + p) = A (10 + j) (19 + p)
def CI (σ α : Mem) : Prop := (σ 0 17 = α 0 0 ∧ σ 0 16 = α 0 2) ∧ Crow σ (α 1) (α 2) (α 3) ∧ (σ 5 2 = α 0 1 ∧ ∀ i : Nat, (i : Int) < α 0 1 → σ 6 i = α 4 i) ∧ cR σ 8 (α 5) ∧ ((σ 18 4 = α 0 5 ∧ σ 23 4 = α 0 6) ∧ (α 0 5 = 1 → cR σ 18 (α 6)) ∧ (α 0 6 = 1 → cR σ 23 (α 7))) ∧ Cact σ (α 0 3) (α 5 3) α ∧ (σ 30 1 = α 0 4 ∧ ∀ i : Nat, (i : Int) < α 0 4 → σ 31 i = α 8 i)
def MI (σ α : Mem) : Prop := (σ 40 3 = α 0 0 ∧ σ 40 11 = α 0 2) ∧ ((∀ r, r < 8 → σ 41 r = α 1 r ∧ σ 42 r = α 2 r) ∧ ∀ i, i < 320 → σ 43 i = α 3 i) ∧ (σ 40 4 = α 0 1 ∧ ∀ i : Nat, (i : Int) < α 0 1 → σ 44 i = α 4 i) ∧ mR σ 45 (α 5) ∧ ((σ 49 0 = α 0 5 ∧ σ 49 1 = α 0 6) ∧ (α 0 5 = 1 → ∀ i, i < 29 → σ 48 i = α 6 i) ∧ (α 0 6 = 1 → ∀ i, i < 29 → σ 48 (29 + i) = α 7 i)) ∧ (σ 40 18 = α 0 3 ∧ ∀ j : Nat, (j : Int) < α 0 3 → ∀ i, i < 29 → σ 50 (29 * j + i) = α (10 + j) i) ∧ (σ 40 20 = α 0 4 ∧ ∀ i : Nat, (i : Int) < α 0 4 → σ 51 i = α 8 i)
/-- no coast yet -/
def cno (t : Nat → Int) : Prop := t 8 = 0 ∧ t 3 = 0 ∧ t 0 = 0 ∧ t 1 = 0 ∧ t 2 = 0 ∧ t 7 = 0
/-- two vectors of one coast: law, sorts and froms are the same -/
def same (s t : Nat → Int) : Prop := (∀ i, 3 ≤ i → i ≤ 8 → s i = t i) ∧ ∀ p : Nat, (p : Int) < t 3 → s (9 + p) = t (9 + p) ∧ s (14 + p) = t (14 + p)
def OKs (α : Mem) : Prop := (0 ≤ α 0 0 ∧ α 0 0 ≤ 5) ∧ (0 ≤ α 0 1 ∧ α 0 1 ≤ 100) ∧ (0 ≤ α 0 2 ∧ α 0 2 ≤ 3) ∧ (0 ≤ α 0 3 ∧ α 0 3 ≤ 24) ∧ (0 ≤ α 0 4 ∧ α 0 4 ≤ 16) ∧ (α 0 5 = 0 ∨ α 0 5 = 1) ∧ (α 0 6 = 0 ∨ α 0 6 = 1)
def OKr (α : Mem) : Prop := (∀ r, r < 8 → (-1 ≤ α 1 r ∧ α 1 r ≤ 2) ∧ (0 ≤ α 2 r ∧ α 2 r ≤ 40)) ∧ ∀ i, i < 320 → zin (α 3 i)
def OKc (α : Mem) : Prop := (cok 999 (α 5) ∨ (cno (α 5) ∧ α 0 3 = 0)) ∧ ∀ j : Nat, (j : Int) < α 0 3 → cok 999 (α (10 + j)) ∧ same (α (10 + j)) (α 5)
def OKi (α : Mem) : Prop := (α 0 5 = 1 → cok 999 (α 6)) ∧ (α 0 6 = 1 → cok 999 (α 7))
def OKt (α : Mem) : Prop := (∀ i : Nat, (i : Int) < α 0 1 → 0 ≤ α 4 i ∧ α 4 i ≤ 255) ∧ ∀ i : Nat, (i : Int) < α 0 4 → zin (α 8 i)
def OK (α : Mem) : Prop := OKs α ∧ OKr α ∧ OKc α ∧ OKi α ∧ OKt α
theorem cR_eq {σ σ' : Mem} {k : Nat} {t : Nat → Int} (h : cR σ k t) (e : ∀ o j, k ≤ o → o ≤ k + 4 → σ' o j = σ o j) : cR σ' k t := by
  obtain ⟨r4, r5, r6, r7, r8, r9, r10, r11, r12, rp⟩ := h
  refine ⟨(e _ _ (by omega) (by omega)).trans r4, (e _ _ (by omega) (by omega)).trans r5, (e _ _ (by omega) (by omega)).trans r6, (e _ _ (by omega) (by omega)).trans r7, (e _ _ (by omega) (by omega)).trans r8, (e _ _ (by omega) (by omega)).trans r9, (e _ _ (by omega) (by omega)).trans r10, fun h => (e _ _ (by omega) (by omega)).trans (r11 h), (e _ _ (by omega) (by omega)).trans r12, fun p hp => ?_⟩
  obtain ⟨p1, p2, p3, p4⟩ := rp p hp
  exact ⟨(e _ _ (by omega) (by omega)).trans p1, (e _ _ (by omega) (by omega)).trans p2, (e _ _ (by omega) (by omega)).trans p3, (e _ _ (by omega) (by omega)).trans p4⟩
theorem Crow.eq {σ σ' : Mem} {a1 a2 a3 : Nat → Int} (h : Crow σ a1 a2 a3) (e : ∀ o j, 2 ≤ o → o ≤ 4 → σ' o j = σ o j) : Crow σ' a1 a2 a3 := ⟨fun r hr => ⟨(e 2 r (by omega) (by omega)).trans (h.1 r hr).1, (e 3 r (by omega) (by omega)).trans (h.1 r hr).2⟩, fun i hi => (e 4 i (by omega) (by omega)).trans (h.2 i hi)⟩
theorem Cact.eq {σ σ' : Mem} {n many : Int} {A : Nat → Nat → Int} (h : Cact σ n many A) (e : ∀ o j, 28 ≤ o → o ≤ 29 → σ' o j = σ o j) : Cact σ' n many A := by
  obtain ⟨h1, nx, h2, h3, h4⟩ := h
  refine ⟨(e _ _ (by omega) (by omega)).trans h1, nx, h2, (e _ _ (by omega) (by omega)).trans h3, fun j hj => ?_⟩
  obtain ⟨b0, b1, b2, bp⟩ := h4 j hj
  refine ⟨(e _ _ (by omega) (by omega)).trans b0, (e _ _ (by omega) (by omega)).trans b1, (e _ _ (by omega) (by omega)).trans b2, fun p hp => ?_⟩
  obtain ⟨c1, c2⟩ := bp p hp
  exact ⟨(e _ _ (by omega) (by omega)).trans c1, (e _ _ (by omega) (by omega)).trans c2⟩
/-- scratch of the class: tape's own place and fault and numbers, foretold, the shares -/
def cse (o j : Nat) : Prop := (o = 5 ∧ 3 ≤ j) ∨ o = 7 ∨ (13 ≤ o ∧ o ≤ 17) ∨ (o = 30 ∧ 2 ≤ j) ∨ (37 ≤ o ∧ o ≤ 39)
theorem CI.keep {σ σ' α : Mem} (h : CI σ α) (e : ∀ o j, o < 40 → ¬ cse o j → σ' o j = σ o j) : CI σ' α := by
  obtain ⟨⟨a1, a2⟩, b, ⟨c1, c2⟩, d, ⟨⟨e1, e2⟩, e3, e4⟩, f, ⟨g1, g2⟩⟩ := h
  have z : ∀ o j, o < 40 → ((o = 5 → j < 3) ∧ o ≠ 7 ∧ (o < 13 ∨ 17 < o) ∧ (o = 30 → j < 2) ∧ o < 37) → σ' o j = σ o j := fun o j h1 h2 => e o j h1 (by unfold cse; omega)
  refine ⟨⟨(z _ _ (by omega) (by omega)).trans a1, (z _ _ (by omega) (by omega)).trans a2⟩, b.eq (fun o j h1 h2 => z o j (by omega) (by omega)), ⟨(z _ _ (by omega) (by omega)).trans c1, fun i hi => (z _ _ (by omega) (by omega)).trans (c2 i hi)⟩, cR_eq d (fun o j h1 h2 => z o j (by omega) (by omega)), ⟨⟨(z _ _ (by omega) (by omega)).trans e1, (z _ _ (by omega) (by omega)).trans e2⟩, fun h => cR_eq (e3 h) (fun o j h1 h2 => z o j (by omega) (by omega)), fun h => cR_eq (e4 h) (fun o j h1 h2 => z o j (by omega) (by omega))⟩, f.eq (fun o j h1 h2 => z o j (by omega) (by omega)), ⟨(z _ _ (by omega) (by omega)).trans g1, fun i hi => (z _ _ (by omega) (by omega)).trans (g2 i hi)⟩⟩
/-- scratch of the reference -/
def mse (o j : Nat) : Prop := (o = 40 ∧ ((6 ≤ j ∧ j ≤ 10) ∨ 24 ≤ j)) ∨ o = 46 ∨ o = 47 ∨ o = 52 ∨ o = 53 ∨ o = 54
theorem MI.keep {σ σ' α : Mem} (h : MI σ α) (e : ∀ o j, 40 ≤ o → o < 55 → ¬ mse o j → σ' o j = σ o j) : MI σ' α := by
  obtain ⟨⟨a1, a2⟩, ⟨b1, b2⟩, ⟨c1, c2⟩, d, ⟨⟨e1, e2⟩, e3, e4⟩, ⟨f1, f2⟩, ⟨g1, g2⟩⟩ := h
  have z : ∀ o j, 40 ≤ o → o < 55 → ((o = 40 → j < 6 ∨ (10 < j ∧ j < 24)) ∧ o ≠ 46 ∧ o ≠ 47 ∧ o < 52) → σ' o j = σ o j := fun o j h1 h2 h3 => e o j h1 h2 (by unfold mse; omega)
  exact ⟨⟨(z _ _ (by omega) (by omega) (by omega)).trans a1, (z _ _ (by omega) (by omega) (by omega)).trans a2⟩, ⟨fun r hr => ⟨(z _ _ (by omega) (by omega) (by omega)).trans (b1 r hr).1, (z _ _ (by omega) (by omega) (by omega)).trans (b1 r hr).2⟩, fun i hi => (z _ _ (by omega) (by omega) (by omega)).trans (b2 i hi)⟩, ⟨(z _ _ (by omega) (by omega) (by omega)).trans c1, fun i hi => (z _ _ (by omega) (by omega) (by omega)).trans (c2 i hi)⟩, fun i hi => (z _ _ (by omega) (by omega) (by omega)).trans (d i hi), ⟨⟨(z _ _ (by omega) (by omega) (by omega)).trans e1, (z _ _ (by omega) (by omega) (by omega)).trans e2⟩, fun h i hi => (z _ _ (by omega) (by omega) (by omega)).trans (e3 h i hi), fun h i hi => (z _ _ (by omega) (by omega) (by omega)).trans (e4 h i hi)⟩, ⟨(z _ _ (by omega) (by omega) (by omega)).trans f1, fun j hj i hi => (z _ _ (by omega) (by omega) (by omega)).trans (f2 j hj i hi)⟩, ⟨(z _ _ (by omega) (by omega) (by omega)).trans g1, fun i hi => (z _ _ (by omega) (by omega) (by omega)).trans (g2 i hi)⟩⟩
/-- a call of the class, of the reference: what it answers, what the state is then -/
abbrev cP (σ α : Mem) (ans : Int) (nxt : Mem) : Int → Mem → Prop := fun v σ' => v = ans ∧ CI σ' nxt ∧ fr 0 40 σ σ'
abbrev mP (σ α : Mem) (ans : Int) (nxt : Mem) : Int → Mem → Prop := fun v σ' => v = ans ∧ MI σ' nxt ∧ fr 40 15 σ σ'
abbrev BAD : Int := -1000001
abbrev STATE : Int := -1000002
abbrev FULL : Int := -1000003
abbrev NONE : Int := -1000000
section
variable {rc : ZRC} {σ : Mem} {t : Nat → Int} {B : Int}
/-- the small helpers of both: a number between two -/
theorem c_within {a b c : Int} (ha : zin a) (hb : zin b) (hc : zin c) : KI rc M_X11_isWithin [zI a, zI b, zI c] σ (fun v σ' => ((v = 1 ∧ b ≤ a ∧ a ≤ c) ∨ (v = 0 ∧ ¬ (b ≤ a ∧ a ≤ c))) ∧ σ' = σ) := by
  refine K_of 0 (by decide) (Nat.le_of_ble_eq_true rfl) (show Z _ _ 0 0 0 [some (zI a), some (zI b), some (zI c)] [] _ _ from ?_)
  refine z_iload_n dX11_isWithin_0 rfl ?_
  refine z_iload_n dX11_isWithin_1 rfl ?_
  refine z_icmp_lt (tgt := 14) dX11_isWithin_2 (by decide) (by omega) (by omega) (fun b2 => ?_) (fun b2 => ?_)
  · refine z_iconst dX11_isWithin_14 ?_
    refine h_zret dX11_isWithin_15 rfl (by omega) rfl rfl ?_
    exact ⟨by omega, rfl⟩
  · refine z_iload_n dX11_isWithin_5 rfl ?_
    refine z_iload_n dX11_isWithin_6 rfl ?_
    refine z_icmp_gt (tgt := 14) dX11_isWithin_7 (by decide) (by omega) (by omega) (fun b7 => ?_) (fun b7 => ?_)
    · refine z_iconst dX11_isWithin_14 ?_
      refine h_zret dX11_isWithin_15 rfl (by omega) rfl rfl ?_
      exact ⟨by omega, rfl⟩
    · refine z_iconst dX11_isWithin_10 ?_
      refine z_goto (tgt := 15) dX11_isWithin_11 (by decide) ?_
      refine h_zret dX11_isWithin_15 rfl (by omega) rfl rfl ?_
      exact ⟨by omega, rfl⟩
theorem m_within {a b c : Int} (ha : zin a) (hb : zin b) (hc : zin c) : KI rc M_X12_in [zI a, zI b, zI c] σ (fun v σ' => ((v = 1 ∧ b ≤ a ∧ a ≤ c) ∨ (v = 0 ∧ ¬ (b ≤ a ∧ a ≤ c))) ∧ σ' = σ) := by
  refine K_of 0 (by decide) (Nat.le_of_ble_eq_true rfl) (show Z _ _ 0 0 0 [some (zI a), some (zI b), some (zI c)] [] _ _ from ?_)
  refine z_iload_n dX12_in_0 rfl ?_
  refine z_iload_n dX12_in_1 rfl ?_
  refine z_icmp_lt (tgt := 14) dX12_in_2 (by decide) (by omega) (by omega) (fun b2 => ?_) (fun b2 => ?_)
  · refine z_iconst dX12_in_14 ?_
    refine h_zret dX12_in_15 rfl (by omega) rfl rfl ?_
    exact ⟨by omega, rfl⟩
  · refine z_iload_n dX12_in_5 rfl ?_
    refine z_iload_n dX12_in_6 rfl ?_
    refine z_icmp_gt (tgt := 14) dX12_in_7 (by decide) (by omega) (by omega) (fun b7 => ?_) (fun b7 => ?_)
    · refine z_iconst dX12_in_14 ?_
      refine h_zret dX12_in_15 rfl (by omega) rfl rfl ?_
      exact ⟨by omega, rfl⟩
    · refine z_iconst dX12_in_10 ?_
      refine z_goto (tgt := 15) dX12_in_11 (by decide) ?_
      refine h_zret dX12_in_15 rfl (by omega) rfl rfl ?_
      exact ⟨by omega, rfl⟩
theorem c_isRow {a : Int} (ha : zin a) : KI rc M_X11_isRow [zI a] σ (fun v σ' => ((v = 1 ∧ 0 ≤ a ∧ a ≤ 7) ∨ (v = 0 ∧ ¬ (0 ≤ a ∧ a ≤ 7))) ∧ σ' = σ) := by
  refine K_of 0 (by decide) (Nat.le_of_ble_eq_true rfl) (show Z _ _ 0 0 0 [some (zI a)] [] _ _ from ?_)
  refine z_iload_n dX11_isRow_0 rfl ?_
  refine z_iconst dX11_isRow_1 ?_
  refine z_bipush dX11_isRow_2 rfl ?_
  refine h_Si3 (Y' := M_X11_isWithin) dX11_isRow_4 zw_265 zw_266 ok_X11_isWithin (by decide) rfl (Nat.le_of_ble_eq_true rfl) ⟨rfl, rfl⟩ (by decide) (c_within ha (by omega) (by omega)) (fun vv σ2 hq => ?_)
  obtain ⟨hv, rfl⟩ := hq
  refine h_zret dX11_isRow_7 rfl (by omega) rfl rfl ?_
  exact ⟨hv, rfl⟩
theorem c_isPlace {a : Int} (ha : zin a) : KI rc M_X11_isPlace [zI a] σ (fun v σ' => ((v = 1 ∧ 0 ≤ a ∧ a ≤ 9) ∨ (v = 0 ∧ ¬ (0 ≤ a ∧ a ≤ 9))) ∧ σ' = σ) := by
  refine K_of 0 (by decide) (Nat.le_of_ble_eq_true rfl) (show Z _ _ 0 0 0 [some (zI a)] [] _ _ from ?_)
  refine z_iload_n dX11_isPlace_0 rfl ?_
  refine z_iconst dX11_isPlace_1 ?_
  refine z_bipush dX11_isPlace_2 rfl ?_
  refine h_Si3 (Y' := M_X11_isWithin) dX11_isPlace_4 zw_265 zw_266 ok_X11_isWithin (by decide) rfl (Nat.le_of_ble_eq_true rfl) ⟨rfl, rfl⟩ (by decide) (c_within ha (by omega) (by omega)) (fun vv σ2 hq => ?_)
  obtain ⟨hv, rfl⟩ := hq
  refine h_zret dX11_isPlace_7 rfl (by omega) rfl rfl ?_
  exact ⟨hv, rfl⟩
theorem c_isAhead {a : Int} (ha : zin a) : KI rc M_X11_isAhead [zI a] σ (fun v σ' => ((v = 1 ∧ 0 ≤ a ∧ a ≤ 60) ∨ (v = 0 ∧ ¬ (0 ≤ a ∧ a ≤ 60))) ∧ σ' = σ) := by
  refine K_of 0 (by decide) (Nat.le_of_ble_eq_true rfl) (show Z _ _ 0 0 0 [some (zI a)] [] _ _ from ?_)
  refine z_iload_n dX11_isAhead_0 rfl ?_
  refine z_iconst dX11_isAhead_1 ?_
  refine z_bipush dX11_isAhead_2 rfl ?_
  refine h_Si3 (Y' := M_X11_isWithin) dX11_isAhead_4 zw_265 zw_266 ok_X11_isWithin (by decide) rfl (Nat.le_of_ble_eq_true rfl) ⟨rfl, rfl⟩ (by decide) (c_within ha (by omega) (by omega)) (fun vv σ2 hq => ?_)
  obtain ⟨hv, rfl⟩ := hq
  refine h_zret dX11_isAhead_7 rfl (by omega) rfl rfl ?_
  exact ⟨hv, rfl⟩
theorem c_isPier {a : Int} (ha : zin a) (e : σ 8 5 = t 3) (h3 : 0 ≤ t 3 ∧ t 3 ≤ 5) : KI rc M_X11_isPier [zR 0, zI a] σ (fun v σ' => ((v = 1 ∧ 0 ≤ a ∧ a < t 3) ∨ (v = 0 ∧ ¬ (0 ≤ a ∧ a < t 3))) ∧ σ' = σ) := by
  refine K_of 0 (by decide) (Nat.le_of_ble_eq_true rfl) (show Z _ _ 0 0 0 [some (zR 0), some (zI a)] [] _ _ from ?_)
  refine z_iload_n dX11_isPier_0 rfl ?_
  refine z_iconst dX11_isPier_1 ?_
  first | refine z_aload_n dX11_isPier_2 rfl ?_ | refine z_aload_nT dX11_isPier_2 rfl ?_
  refine h_getr dX11_isPier_3 fl_X11_26 (by first | assumption | rfl) (by rfl) ?_
  refine h_geti dX11_isPier_6 fl_X11_173 (by first | assumption | rfl) (by rfl) ?_
  refine z_iconst dX11_isPier_9 ?_
  refine z_isub dX11_isPier_10 ?_
  refine h_Si3 (Y' := M_X11_isWithin) dX11_isPier_11 zw_265 zw_266 ok_X11_isWithin (by decide) rfl (Nat.le_of_ble_eq_true rfl) ⟨rfl, rfl⟩ (by decide) (c_within ha (by omega) (by omega)) (fun vv σ2 hq => ?_)
  obtain ⟨hv, rfl⟩ := hq
  refine h_zret dX11_isPier_14 rfl (by omega) rfl rfl ?_
  exact ⟨by omega, rfl⟩
theorem m_isRow {a : Int} (ha : zin a) : KI rc M_X12_isRow [zI a] σ (fun v σ' => ((v = 1 ∧ 0 ≤ a ∧ a ≤ 7) ∨ (v = 0 ∧ ¬ (0 ≤ a ∧ a ≤ 7))) ∧ σ' = σ) := by
  refine K_of 0 (by decide) (Nat.le_of_ble_eq_true rfl) (show Z _ _ 0 0 0 [some (zI a)] [] _ _ from ?_)
  refine z_iload_n dX12_isRow_0 rfl ?_
  refine z_iconst dX12_isRow_1 ?_
  refine z_bipush dX12_isRow_2 rfl ?_
  refine h_Si3 (Y' := M_X12_in) dX12_isRow_4 zw_857 zw_858 ok_X12_in (by decide) rfl (Nat.le_of_ble_eq_true rfl) ⟨rfl, rfl⟩ (by decide) (m_within ha (by omega) (by omega)) (fun vv σ2 hq => ?_)
  obtain ⟨hv, rfl⟩ := hq
  refine h_zret dX12_isRow_7 rfl (by omega) rfl rfl ?_
  exact ⟨hv, rfl⟩
theorem m_isOne {a : Int} (ha : zin a) (e : σ 45 3 = t 3) (h3 : 0 ≤ t 3 ∧ t 3 ≤ 5) : KI rc M_X12_isOne [zR 40, zI a] σ (fun v σ' => ((v = 1 ∧ 0 ≤ a ∧ a < t 3) ∨ (v = 0 ∧ ¬ (0 ≤ a ∧ a < t 3))) ∧ σ' = σ) := by
  refine K_of 0 (by decide) (Nat.le_of_ble_eq_true rfl) (show Z _ _ 0 0 0 [some (zR 40), some (zI a)] [] _ _ from ?_)
  refine z_iload_n dX12_isOne_0 rfl ?_
  refine z_iconst dX12_isOne_1 ?_
  first | refine z_aload_n dX12_isOne_2 rfl ?_ | refine z_aload_nT dX12_isOne_2 rfl ?_
  refine h_getr dX12_isOne_3 fl_X12_22 (by first | assumption | rfl) (by rfl) ?_
  refine z_iconst dX12_isOne_6 ?_
  first | refine h_iald dX12_isOne_7 (by first | assumption | rfl) (by repeat' first | apply zc_add | apply zc_mul | with_reducible exact zc_var _ | exact zc_lit _) (by omega) (by decide) ?_ | refine z_ialdT _ dX12_isOne_7 (by assumption) (by repeat' first | apply zc_add | apply zc_mul | with_reducible exact zc_var _ | exact zc_lit _) (by omega) (by omega) ?_
  refine z_iconst dX12_isOne_8 ?_
  refine z_isub dX12_isOne_9 ?_
  refine h_Si3 (Y' := M_X12_in) dX12_isOne_10 zw_857 zw_858 ok_X12_in (by decide) rfl (Nat.le_of_ble_eq_true rfl) ⟨rfl, rfl⟩ (by decide) (m_within ha (by omega) (by omega)) (fun vv σ2 hq => ?_)
  obtain ⟨hv, rfl⟩ := hq
  refine h_zret dX12_isOne_13 rfl (by omega) rfl rfl ?_
  exact ⟨by omega, rfl⟩
theorem m_isCoast (e : σ 45 8 = t 8) (h : t 8 = 0 ∨ t 8 = 1) : KI rc M_X12_isCoast [zR 40] σ (fun v σ' => v = t 8 ∧ σ' = σ) := by
  refine K_of 0 (by decide) (Nat.le_of_ble_eq_true rfl) (show Z _ _ 0 0 0 [some (zR 40)] [] _ _ from ?_)
  first | refine z_aload_n dX12_isCoast_0 rfl ?_ | refine z_aload_nT dX12_isCoast_0 rfl ?_
  refine h_getr dX12_isCoast_1 fl_X12_22 (by first | assumption | rfl) (by rfl) ?_
  refine z_bipush dX12_isCoast_4 rfl ?_
  first | refine h_iald dX12_isCoast_6 (by first | assumption | rfl) (by repeat' first | apply zc_add | apply zc_mul | with_reducible exact zc_var _ | exact zc_lit _) (by omega) (by decide) ?_ | refine z_ialdT _ dX12_isCoast_6 (by assumption) (by repeat' first | apply zc_add | apply zc_mul | with_reducible exact zc_var _ | exact zc_lit _) (by omega) (by omega) ?_
  refine z_iconst dX12_isCoast_7 ?_
  refine z_icmp_ne (tgt := 15) dX12_isCoast_8 (by decide) (by omega) (by omega) (fun b8 => ?_) (fun b8 => ?_)
  · refine z_iconst dX12_isCoast_15 ?_
    refine h_zret dX12_isCoast_16 rfl (by omega) rfl rfl ?_
    exact ⟨by omega, rfl⟩
  · refine z_iconst dX12_isCoast_11 ?_
    refine z_goto (tgt := 16) dX12_isCoast_12 (by decide) ?_
    refine h_zret dX12_isCoast_16 rfl (by omega) rfl rfl ?_
    exact ⟨by omega, rfl⟩
theorem c_found {a : Int} : KI rc M_X11_found [zR 0, zI a] σ (fun v σ' => v = -1000010 - a ∧ σ' = zu σ 0 17 a) := by
  refine K_of 0 (by decide) (Nat.le_of_ble_eq_true rfl) (show Z _ _ 0 0 0 [some (zR 0), some (zI a)] [] _ _ from ?_)
  first | refine z_aload_n dX11_found_0 rfl ?_ | refine z_aload_nT dX11_found_0 rfl ?_
  refine z_iload_n dX11_found_1 rfl ?_
  refine h_puti dX11_found_2 fp_X11_102 (by first | assumption | rfl) (by rfl) ?_
  refine z_ldcw (n := -1000010) dX11_found_5 zw_273 rfl ?_
  refine z_iload_n dX11_found_8 rfl ?_
  refine z_isub dX11_found_9 ?_
  refine h_iret dX11_found_10 rfl rfl rfl ?_
  exact ⟨rfl, rfl⟩
theorem c_fine {a : Int} : KI rc M_X11_fine [zR 0, zI a] σ (fun v σ' => v = a ∧ σ' = zu σ 0 17 0) := by
  refine K_of 0 (by decide) (Nat.le_of_ble_eq_true rfl) (show Z _ _ 0 0 0 [some (zR 0), some (zI a)] [] _ _ from ?_)
  first | refine z_aload_n dX11_fine_0 rfl ?_ | refine z_aload_nT dX11_fine_0 rfl ?_
  refine z_iconst dX11_fine_1 ?_
  refine h_puti dX11_fine_2 fp_X11_102 (by first | assumption | rfl) (by rfl) ?_
  refine z_iload_n dX11_fine_5 rfl ?_
  refine h_iret dX11_fine_6 rfl rfl rfl ?_
  exact ⟨rfl, rfl⟩
theorem m_finds {a : Int} : KI rc M_X12_finds [zR 40, zI a] σ (fun v σ' => v = -1000010 - a ∧ σ' = zu σ 40 3 a) := by
  refine K_of 0 (by decide) (Nat.le_of_ble_eq_true rfl) (show Z _ _ 0 0 0 [some (zR 40), some (zI a)] [] _ _ from ?_)
  first | refine z_aload_n dX12_finds_0 rfl ?_ | refine z_aload_nT dX12_finds_0 rfl ?_
  refine z_iload_n dX12_finds_1 rfl ?_
  refine h_puti dX12_finds_2 fp_X12_57 (by first | assumption | rfl) (by rfl) ?_
  refine z_ldc (n := -1000010) dX12_finds_5 zw_865 rfl ?_
  refine z_iload_n dX12_finds_7 rfl ?_
  refine z_isub dX12_finds_8 ?_
  refine h_iret dX12_finds_9 rfl rfl rfl ?_
  exact ⟨rfl, rfl⟩
theorem m_done {a : Int} : KI rc M_X12_done [zR 40, zI a] σ (fun v σ' => v = a ∧ σ' = zu σ 40 3 0) := by
  refine K_of 0 (by decide) (Nat.le_of_ble_eq_true rfl) (show Z _ _ 0 0 0 [some (zR 40), some (zI a)] [] _ _ from ?_)
  first | refine z_aload_n dX12_done_0 rfl ?_ | refine z_aload_nT dX12_done_0 rfl ?_
  refine z_iconst dX12_done_1 ?_
  refine h_puti dX12_done_2 fp_X12_57 (by first | assumption | rfl) (by rfl) ?_
  refine z_iload_n dX12_done_5 rfl ?_
  refine h_iret dX12_done_6 rfl rfl rfl ?_
  exact ⟨rfl, rfl⟩
theorem m_begin (hR : mR σ 45 t) : KV rc M_X12_begin [zR 40] σ (fun σ' => mR σ' 47 t ∧ fm 47 σ σ') := by
  refine K_of 0 (by decide) (Nat.le_of_ble_eq_true rfl) (show Z _ _ 0 0 0 [some (zR 40)] [] _ _ from ?_)
  first | refine z_aload_n dX12_begin_0 rfl ?_ | refine z_aload_nT dX12_begin_0 rfl ?_
  refine h_getr dX12_begin_1 fl_X12_22 (by first | assumption | rfl) (by rfl) ?_
  refine z_iconst dX12_begin_4 ?_
  first | refine z_aload_n dX12_begin_5 rfl ?_ | refine z_aload_nT dX12_begin_5 rfl ?_
  refine h_getr dX12_begin_6 fl_X12_28 (by first | assumption | rfl) (by rfl) ?_
  refine z_iconst dX12_begin_9 ?_
  refine h_Sv4 (Y' := M_X12_lay) dX12_begin_10 zw_930 zw_931 ok_X12_lay (by decide) rfl (Nat.le_of_ble_eq_true rfl) ⟨rfl, rfl⟩ (by decide) (m_lay (f := 0) (g := 0) (a := 45) (b := 47) rfl rfl (by decide) (by decide) (by decide) (by decide) (by decide)) (fun σ2 hq => ?_)
  obtain ⟨h1, h2, h3⟩ := hq
  refine h_vret dX12_begin_13 rfl rfl rfl ?_
  exact ⟨fun i hi => by have := h1 i hi; simp only [Nat.zero_add] at this; rw [this]; exact hR i hi, h3⟩
theorem m_goOn {d : Nat} (hR : mR σ 47 t) (hk : cok B t) (hB : B + d ≤ 100000) (hd : d ≤ 1000) : KV rc M_X12_goOn [zR 40, zI (d : Int)] σ (fun σ' => mR σ' 47 (gnF t d) ∧ fm 47 σ σ') := by
  have loop : ∀ n p : Nat, p + n = d → ∀ σ' : Mem, mR σ' 47 (gnF t p) → fm 47 σ σ' → Z rc M_X12_goOn 0 0 2 [some (zR 40), some (zI (d : Int)), some (zI (p : Int))] [] (hp σ') (qV (fun σ' => mR σ' 47 (gnF t d) ∧ fm 47 σ σ')) := by
    intro n
    induction n with
    | zero =>
      intro p hpn σ' i1 i2
      refine z_iload_n dX12_goOn_2 rfl ?_
      refine z_iload_n dX12_goOn_3 rfl ?_
      refine z_icmp_ge (tgt := 27) dX12_goOn_4 (by decide) (by omega) (by omega) (fun b4 => ?_) (fun b4 => ?_)
      · refine h_vret dX12_goOn_27 rfl rfl rfl ?_
        rw [show p = d by omega] at i1
        exact ⟨i1, i2⟩
      · omega
    | succ n ih =>
      intro p hpn σ' i1 i2
      have hg := gnF_ok hk p
      have hst := stF_in (gnF t p)
      refine z_iload_n dX12_goOn_2 rfl ?_
      refine z_iload_n dX12_goOn_3 rfl ?_
      refine z_icmp_ge (tgt := 27) dX12_goOn_4 (by decide) (by omega) (by omega) (fun b4 => ?_) (fun b4 => ?_)
      · omega
      · first | refine z_aload_n dX12_goOn_7 rfl ?_ | refine z_aload_nT dX12_goOn_7 rfl ?_
        refine h_getr dX12_goOn_8 fl_X12_28 (by first | assumption | rfl) (by rfl) ?_
        first | refine z_aload_n dX12_goOn_11 rfl ?_ | refine z_aload_nT dX12_goOn_11 rfl ?_
        refine h_getr dX12_goOn_12 fl_X12_28 (by first | assumption | rfl) (by rfl) ?_
        refine h_Si1 (Y' := M_X12_stormIn) dX12_goOn_15 zw_950 zw_951 ok_X12_stormIn (by decide) rfl (Nat.le_of_ble_eq_true rfl) ⟨rfl, rfl⟩ (by decide) (m_stormIn (t := gnF t p) rfl (i1 0 (by omega)) (i1 7 (by omega)) hg.2.2.2.2.2.2.2.2.1 ⟨hg.2.2.1.1, by have := hg.2.2.1.2; omega⟩) (fun vv σ2 hq => ?_)
        obtain ⟨rfl, rfl⟩ := hq
        refine h_Sv2 (Y' := M_X12_goBy) dX12_goOn_18 zw_953 zw_954 ok_X12_goBy (by decide) rfl (Nat.le_of_ble_eq_true rfl) ⟨rfl, rfl⟩ (by decide) (m_goBy rfl i1 hg (by omega) hst.1 hst.2) (fun σ2 hq => ?_)
        obtain ⟨e1, e2⟩ := hq
        refine z_iinc dX12_goOn_21 rfl (by decide) rfl ?_
        refine z_goto (tgt := 2) dX12_goOn_24 (by decide) ?_
        have := ih (p + 1) (by omega) _ e1 (i2.tr e2)
        rw [nsucc] at this
        exact this
  refine K_of 1 (by decide) (Nat.le_of_ble_eq_true rfl) (show Z _ _ 0 0 0 [some (zR 40), some (zI (d : Int)), none] [] _ _ from ?_)
  refine z_iconst dX12_goOn_0 ?_
  refine z_istore_n dX12_goOn_1 (by decide) rfl ?_
  exact loop _ 0 (Nat.zero_add _) σ hR fm.rf
theorem c_foretell {d : Nat} (hR : cR σ 8 t) (hk : cok B t) (hB : B + d ≤ 100000) (hd : d ≤ 1000) : KV rc M_X11_foretell [zR 0, zI (d : Int)] σ (fun σ' => cR σ' 13 (gnF t d) ∧ fr 13 5 σ σ') := by
  refine K_of 0 (by decide) (Nat.le_of_ble_eq_true rfl) (show Z _ _ 0 0 0 [some (zR 0), some (zI (d : Int))] [] _ _ from ?_)
  first | refine z_aload_n dX11_foretell_0 rfl ?_ | refine z_aload_nT dX11_foretell_0 rfl ?_
  refine h_getr dX11_foretell_1 fl_X11_30 (by first | assumption | rfl) (by rfl) ?_
  first | refine z_aload_n dX11_foretell_4 rfl ?_ | refine z_aload_nT dX11_foretell_4 rfl ?_
  refine h_getr dX11_foretell_5 fl_X11_26 (by first | assumption | rfl) (by rfl) ?_
  refine h_Vv1 (Y' := M_X2_become) dX11_foretell_8 zw_401 zw_402 zw_403 rfl ok_X2_become (by decide) rfl (Nat.le_of_ble_eq_true rfl) ⟨rfl, rfl⟩ (by decide) (by first | assumption | rfl) (k_become (Or.inr (Or.inl rfl)) (Or.inl rfl) (by decide) hR hk.2.1 (Or.inr hk.1)) (fun σ2 hq => ?_)
  obtain ⟨h1, h2⟩ := hq
  first | refine z_aload_n dX11_foretell_11 rfl ?_ | refine z_aload_nT dX11_foretell_11 rfl ?_
  refine h_getr dX11_foretell_12 fl_X11_30 (by first | assumption | rfl) (by rfl) ?_
  refine z_iload_n dX11_foretell_15 rfl ?_
  refine h_Vv1 (Y' := M_X2_passAll) dX11_foretell_16 zw_514 zw_515 zw_516 rfl ok_X2_passAll (by decide) rfl (Nat.le_of_ble_eq_true rfl) ⟨rfl, rfl⟩ (by decide) (by first | assumption | rfl) (k_passAll (Or.inr (Or.inl rfl)) h1 hk hB hd) (fun σ2 hq => ?_)
  obtain ⟨h3, h4⟩ := hq
  refine h_vret dX11_foretell_19 rfl rfl rfl ?_
  exact ⟨h3, h2.tr h4⟩
end
