/-! OK is kept by every call -/
theorem zup_at {f : Nat → Int} {k : Nat} {x : Int} : zup f k x k = x := by
  unfold zup
  rw [if_pos rfl]
theorem OK_rows {α : Mem} {a1 a2 a3 : Nat → Int} {st : Int} (h : OK α) (hs : 0 ≤ st ∧ st ≤ 5) (hr : ∀ r, r < 8 → (-1 ≤ a1 r ∧ a1 r ≤ 2) ∧ (0 ≤ a2 r ∧ a2 r ≤ 40)) (h3 : ∀ i, i < 320 → zin (a3 i)) : OK (rowsU α a1 a2 a3 st) := ⟨⟨hs, h.1.2⟩, ⟨hr, h3⟩, ⟨h.2.2.1.1, fun j hj => by
  rw [rowsU_10]
  exact h.2.2.1.2 j hj⟩, h.2.2.2.1, h.2.2.2.2⟩
theorem OK_st {α : Mem} {st : Int} (h : OK α) (hs : 0 ≤ st ∧ st ≤ 5) : OK (rowsU α (α 1) (α 2) (α 3) st) := OK_rows h hs h.2.1.1 h.2.1.2
theorem ok_row {α : Mem} {r l n : Int} (h : OK α) : OK (nRow α r l n) := by
  unfold nRow
  split
  · exact h
  · rename_i h1
    split
    · exact OK_st h (by omega)
    · rename_i h2
      refine OK_rows h (by omega) (fun q hq => ?_) (fun i hi => ?_)
      · have h0 := h.2.1.1 q hq
        by_cases e : q = r.toNat
        · rw [e, zup_at, zup_at]
          omega
        · rw [zup_ne e, zup_ne e]
          exact h0
      · unfold clF
        split
        · omega
        · exact h.2.1.2 i hi
theorem ok_drop {α : Mem} {r : Int} (h : OK α) : OK (nDrop α r) := by
  unfold nDrop
  split
  · exact h
  · split
    · exact OK_st h (by omega)
    · refine OK_rows h (by omega) (fun q hq => ?_) h.2.1.2
      have h0 := h.2.1.1 q hq
      by_cases e : q = r.toNat
      · rw [e, zup_at, ← e]
        omega
      · rw [zup_ne e]
        exact h0
theorem laneF_in {l v : Int} (hv : zin v) : zin (laneF l v) := by
  unfold laneF
  split
  · exact zin_of _
  · split
    · exact zin_of _
    · exact hv
theorem ok_set {α : Mem} {r i v : Int} (h : OK α) (hv : zin v) : OK (nSet α r i v) := by
  unfold nSet
  split
  · exact h
  · split
    · exact OK_st h (by omega)
    · split
      · exact OK_st h (by omega)
      · refine OK_rows h (by omega) h.2.1.1 (fun j hj => ?_)
        by_cases e : j = 40 * r.toNat + i.toNat
        · rw [e, zup_at]
          exact laneF_in hv
        · rw [zup_ne e]
          exact h.2.1.2 j hj
theorem ok_copy {α : Mem} {a i b j n : Int} (h : OK α) : OK (nCopy α a i b j n) := by
  unfold nCopy
  split
  · exact h
  · rename_i h1
    split
    · exact OK_st h (by omega)
    · split
      · exact OK_st h (by omega)
      · split
        · exact OK_st h (by omega)
        · rename_i h2
          refine OK_rows h (by omega) h.2.1.1 (fun k hk => ?_)
          have ha := h.2.1.1 a.toNat (by omega)
          unfold zcpy
          split
          · exact h.2.1.2 _ (by omega)
          · exact h.2.1.2 _ hk
theorem ok_feed {α : Mem} {c : Int} (h : OK α) : OK (nFeed α c) := by
  unfold nFeed
  split
  · exact h
  · rename_i h1
    split
    · exact h
    · rename_i h2
      have hb := h.1.2.1
      refine ⟨⟨h.1.1, ⟨show 0 ≤ α 0 1 + 1 by omega, show α 0 1 + 1 ≤ 100 by omega⟩, h.1.2.2⟩, h.2.1, ⟨h.2.2.1.1, fun j hj => ?_⟩, h.2.2.2.1, ⟨fun i hi => ?_, h.2.2.2.2.2⟩⟩
      · rw [tapU_10]
        exact h.2.2.1.2 j hj
      · have hi : (i : Int) < α 0 1 + 1 := hi
        show 0 ≤ zup (α 4) (α 0 1).toNat c i ∧ zup (α 4) (α 0 1).toNat c i ≤ 255
        by_cases e : i = (α 0 1).toNat
        · rw [e, zup_at]
          omega
        · rw [zup_ne e]
          exact h.2.2.2.2.1 i (by omega)
theorem ok_seas {α : Mem} {n : Int} (h : OK α) : OK (nSeas α n) := by
  unfold nSeas
  split
  · exact h
  · rename_i h1
    split
    · exact h
    · split
      · exact h
      · exact (seaF_ok h (OKc_s h h1) n.toNat (by omega)).1
theorem same_up {t : Nat → Int} {i : Nat} {x : Int} (h : i < 3 ∨ 19 ≤ i) (h3 : t 3 ≤ 5) : same t (zup t i x) := ⟨fun j h1 h2 => (zup_ne (by omega)).symm, fun p hp => by
  rw [zup_ne (by omega)] at hp
  exact ⟨(zup_ne (by omega)).symm, (zup_ne (by omega)).symm⟩⟩
theorem ok_build {α : Mem} {a : Int} (h : OK α) : OK (nBuild α a) := by
  unfold nBuild
  split
  · exact h
  · rename_i h1
    split
    · exact h
    · split
      · exact h
      · have hk := OKc_p (a := a) h (by omega) (by omega)
        have q4 := (hk.2.2.2.2.2.2.2.2.2 a.toNat (by omega)).2.2.2
        have a2 := hk.2.2.2.2.1
        have h3 := hk.2.1
        refine OK_now (OK_psh h hk) (cok_bl hk (by omega) (by omega)) ?_
        refine same_tr (same_up (i := 24 + a.toNat) (by omega) h3.2) (same_up (i := 2) (by omega) ?_)
        rw [zup_ne (by omega)]
        exact h3.2
theorem ok_turn {α : Mem} {a l : Int} (h : OK α) : OK (nTurn α a l) := by
  unfold nTurn
  split
  · exact h
  · split
    · exact h
    · have hk := OKc_p (a := a) h (by omega) (by omega)
      have h3 := hk.2.1
      exact OK_now (OK_psh h hk) (cok_lean hk (by omega) (by omega) (by omega)) (same_up (i := 19 + a.toNat) (by omega) h3.2)
theorem cok_buy {B : Int} {t : Nat → Int} {x y : Int} (h : cok B t) (hx : 0 ≤ x ∧ x ≤ 9999) (hy : 0 ≤ y ∧ y ≤ 99) : cok B (zup (zup t 1 x) 2 y) := by
  have e : ∀ i, i ≠ 1 → i ≠ 2 → zup (zup t 1 x) 2 y i = t i := fun i h1 h2 => by rw [zup_ne h2, zup_ne h1]
  obtain ⟨a8, a3, a0, a1, a2, a4, a5, a6, a7, hq⟩ := h
  refine ⟨?_, ?_, ?_, ?_, ?_, ?_, ?_, ?_, ?_, ?_⟩
  · rw [e 8 (by omega) (by omega)]; exact a8
  · rw [e 3 (by omega) (by omega)]; exact a3
  · rw [e 0 (by omega) (by omega)]; exact a0
  · rw [zup_ne (by omega), zup_at]; exact hx
  · rw [zup_at]; exact hy
  · rw [e 4 (by omega) (by omega)]; exact a4
  · rw [e 5 (by omega) (by omega)]; exact a5
  · rw [e 6 (by omega) (by omega)]; exact a6
  · rw [e 7 (by omega) (by omega)]; exact a7
  · intro q hq2
    rw [e 3 (by omega) (by omega)] at hq2
    rw [e (9 + q) (by omega) (by omega), e (14 + q) (by omega) (by omega), e (19 + q) (by omega) (by omega), e (24 + q) (by omega) (by omega)]
    exact hq q hq2
theorem ok_buy {α : Mem} {n : Int} (h : OK α) : OK (nBuy α n) := by
  unfold nBuy
  split
  · exact h
  · rename_i h1
    split
    · exact h
    · split
      · exact h
      · split
        · exact h
        · have hk := OKc_s h h1
          have h3 := hk.2.1
          have a1 := hk.2.2.2.1
          have a2 := hk.2.2.2.2.1
          refine OK_now (OK_psh h hk) (cok_buy hk (by omega) (by omega)) ?_
          refine same_tr (same_up (i := 1) (by omega) h3.2) (same_up (i := 2) (by omega) ?_)
          rw [zup_ne (by omega)]
          exact h3.2
theorem same_sy {s t : Nat → Int} (h : same s t) : same t s := ⟨fun i h1 h2 => (h.1 i h1 h2).symm, fun p hp => by
  have := h.2 p (by rw [← h.1 3 (by omega) (by omega)]; exact hp)
  exact ⟨this.1.symm, this.2.symm⟩⟩
theorem ok_undo {α : Mem} (h : OK α) : OK (nUndo α) := by
  unfold nUndo
  split
  · exact h
  · have hb := h.1.2.2.2.1
    have h0 := h.2.2.1.2 ((α 0 3).toNat - 1) (by omega)
    refine ⟨⟨h.1.1, h.1.2.1, h.1.2.2.1, ⟨show 0 ≤ α 0 3 - 1 by omega, show α 0 3 - 1 ≤ 24 by omega⟩, h.1.2.2.2.2⟩, h.2.1, ⟨Or.inl h0.1, fun j hj => ?_⟩, h.2.2.2.1, h.2.2.2.2⟩
    have hj : (j : Int) < α 0 3 - 1 := hj
    have h1 := h.2.2.1.2 j (by omega)
    show cok 999 (popU α (10 + j)) ∧ same (popU α (10 + j)) (α (10 + ((α 0 3).toNat - 1)))
    rw [popU_10]
    exact ⟨h1.1, same_tr h1.2 (same_sy h0.2)⟩
theorem ok_image {α : Mem} {k : Int} (h : OK α) : OK (nImage α k) := by
  unfold nImage
  split
  · exact h
  · rename_i h1
    split
    · exact h
    · rename_i h2
      have hk := OKc_s h h2
      have e : k.toNat = 0 ∨ k.toNat = 1 := by omega
      rcases e with e | e
      · rw [e]
        exact ⟨⟨h.1.1, h.1.2.1, h.1.2.2.1, h.1.2.2.2.1, h.1.2.2.2.2.1, Or.inr rfl, h.1.2.2.2.2.2.2⟩, h.2.1, ⟨h.2.2.1.1, fun j hj => by rw [imgU_10 (by omega)]; exact h.2.2.1.2 j hj⟩, ⟨fun _ => hk, h.2.2.2.1.2⟩, h.2.2.2.2⟩
      · rw [e]
        exact ⟨⟨h.1.1, h.1.2.1, h.1.2.2.1, h.1.2.2.2.1, h.1.2.2.2.2.1, h.1.2.2.2.2.2.1, Or.inr rfl⟩, h.2.1, ⟨h.2.2.1.1, fun j hj => by rw [imgU_10 (by omega)]; exact h.2.2.1.2 j hj⟩, ⟨h.2.2.2.1.1, fun _ => hk⟩, h.2.2.2.2⟩
theorem ok_rest {α : Mem} {k : Int} (h : OK α) : OK (nRest α k) := by
  unfold nRest
  split
  · exact h
  · rename_i h1
    split
    · exact h
    · rename_i h2
      have hk : cok 999 (α (6 + k.toNat)) := by
        have e : k.toNat = 0 ∨ k.toNat = 1 := by omega
        rcases e with e | e
        · rw [e] at h2 ⊢
          exact h.2.2.2.1.1 (h.1.2.2.2.2.2.1.resolve_left h2)
        · rw [e] at h2 ⊢
          exact h.2.2.2.1.2 (h.1.2.2.2.2.2.2.resolve_left h2)
      exact ⟨⟨h.1.1, h.1.2.1, h.1.2.2.1, ⟨Int.le_refl 0, by show (0 : Int) ≤ 24; omega⟩, h.1.2.2.2.2⟩, h.2.1, ⟨Or.inl hk, fun j hj => by
        have hj : (j : Int) < 0 := hj
        omega⟩, h.2.2.2.1, h.2.2.2.2⟩
theorem ok_as {α : Mem} {a w : Int} (h : OK α) : OK (nAs α a w) := by
  unfold nAs
  split
  · exact h
  · split
    · exact OK_st h (by omega)
    · exact OK_st h (by omega)
theorem ok_fits {α : Mem} {a r i n w : Int} (h : OK α) : OK (nFits α a r i n w) := by
  unfold nFits
  split
  · exact h
  · split
    · exact OK_st h (by omega)
    · split
      · exact OK_st h (by omega)
      · exact OK_st h (by omega)
theorem OK_tr {α : Mem} {l : List Int} (h : OK α) (h1 : l.length ≤ 16) (h2 : ∀ x ∈ l, zin x) : OK (trU α l) := by
  refine ⟨⟨h.1.1, h.1.2.1, h.1.2.2.1, h.1.2.2.2.1, ⟨show 0 ≤ (l.length : Int) by omega, show (l.length : Int) ≤ 16 by omega⟩, h.1.2.2.2.2.2⟩, h.2.1, ⟨h.2.2.1.1, fun j hj => by rw [trU_10]; exact h.2.2.1.2 j hj⟩, h.2.2.2.1, ⟨h.2.2.2.2.1, fun i hi => ?_⟩⟩
  have hi : (i : Int) < (l.length : Int) := hi
  show zin (l.getD i 0)
  have hl : i < l.length := by omega
  rw [List.getD_eq_getElem?_getD, List.getElem?_eq_getElem hl]
  exact h2 _ (List.getElem_mem hl)
theorem szT_in (k : Int) : (szT k).length ≤ 16 ∧ ∀ x ∈ szT k, zin x := by
  unfold szT
  repeat' split
  all_goals exact ⟨by decide, by decide⟩
theorem mkT_in (k : Int) : (mkT k).length ≤ 16 ∧ ∀ x ∈ mkT k, zin x := by
  unfold mkT
  repeat' split
  all_goals exact ⟨by decide, by decide⟩
theorem ok_ask {α : Mem} {a w : Int} (h : OK α) : OK (nAsk α a w) := by
  unfold nAsk
  split
  · exact h
  · split
    · exact OK_tr h (szT_in _).1 (szT_in _).2
    · exact OK_tr h (mkT_in _).1 (mkT_in _).2
theorem psL_fa {f : Nat → Int} {N : Nat} {lo hi : Nat → Int} {n : Nat} : ∀ m k a v, 0 ≤ (psL f N lo hi n m k a v).fa ∧ (psL f N lo hi n m k a v).fa ≤ 3
  | 0, _, _, _ => ⟨Int.le_refl 0, by show (0 : Int) ≤ 3; omega⟩
  | m + 1, k, a, v => by
    rw [psL_s]
    split
    · exact ⟨by show (0 : Int) ≤ 1; omega, by show (1 : Int) ≤ 3; omega⟩
    · split
      · exact ⟨by show (0 : Int) ≤ 2; omega, by show (2 : Int) ≤ 3; omega⟩
      · split
        · exact ⟨by show (0 : Int) ≤ 1; omega, by show (1 : Int) ≤ 3; omega⟩
        · exact psL_fa m _ _ _
theorem piF_fa {f : Nat → Int} {N : Nat} : ∀ m a t, 0 ≤ (piF f N m a t).fa ∧ (piF f N m a t).fa ≤ 3
  | 0, _, _ => ⟨Int.le_refl 0, by show (0 : Int) ≤ 3; omega⟩
  | m + 1, a, t => by
    rw [piF_s]
    split
    · exact ⟨Int.le_refl 0, by show (0 : Int) ≤ 3; omega⟩
    · split
      · exact ⟨by show (0 : Int) ≤ 1; omega, by show (1 : Int) ≤ 3; omega⟩
      · split
        · exact ⟨by show (0 : Int) ≤ 3; omega, Int.le_refl 3⟩
        · split
          · exact piF_fa m _ _
          · exact psL_fa 3 0 (a + 1) zZ
theorem coF_fa {f : Nat → Int} {N : Nat} : 0 ≤ (coF f N).fa ∧ (coF f N).fa ≤ 3 := by
  unfold coF
  split
  · exact piF_fa _ _ _
  · unfold laF
    split
    · exact ⟨by show (0 : Int) ≤ 1; omega, by show (1 : Int) ≤ 3; omega⟩
    · split
      · exact ⟨Int.le_refl 0, by show (0 : Int) ≤ 3; omega⟩
      · exact psL_fa 5 0 1 zZ
theorem ok_coast {α : Mem} (h : OK α) : OK (nCoast α) := by
  unfold nCoast
  split
  · rename_i h1
    have hk : cok 0 (coR α).va := coF_ok h1
    have hk9 : cok 999 (coR α).va := cok_t hk (by have := hk.2.2.1.2; omega)
    exact ⟨⟨h.1.1, ⟨Int.le_refl 0, by show (0 : Int) ≤ 100; omega⟩, h.1.2.2.1, ⟨Int.le_refl 0, by show (0 : Int) ≤ 24; omega⟩, h.1.2.2.2.2⟩, h.2.1, ⟨Or.inl hk9, fun j hj => by
      have hj : (j : Int) < 0 := hj
      omega⟩, h.2.2.2.1, ⟨fun i hi => by
      have hi : (i : Int) < 0 := hi
      omega, h.2.2.2.2.2⟩⟩
  · exact ⟨⟨h.1.1, ⟨Int.le_refl 0, by show (0 : Int) ≤ 100; omega⟩, coF_fa, h.1.2.2.2⟩, h.2.1, ⟨h.2.2.1.1, fun j hj => by rw [badU_10]; exact h.2.2.1.2 j hj⟩, h.2.2.2.1, ⟨fun i hi => by
      have hi : (i : Int) < 0 := hi
      omega, h.2.2.2.2.2⟩⟩
