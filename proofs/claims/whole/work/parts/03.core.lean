def zml : List (String × Nat × MethodName) := [("PierYears", 11, ⟨"PierYears$Rows", "<init>", "()V"⟩), ("PierYears", 18, ⟨"PierYears$Tape", "<init>", "()V"⟩), ("PierYears", 25, ⟨"PierYears$Coast", "<init>", "()V"⟩), ("PierYears", 41, ⟨"PierYears$Past", "<init>", "()V"⟩), ("PierYears", 48, ⟨"PierYears$Asking", "<init>", "()V"⟩), ("PierYears", 55, ⟨"PierYears$Irons", "<init>", "()V"⟩), ("PierYears$Irons", 1, ⟨"PierYears$Pier", "<init>", "()V"⟩), ("PierYears", 62, ⟨"PierYears$Cast", "<init>", "()V"⟩), ("PierYears$Cast", 1, ⟨"PierYears$Irons", "<init>", "()V"⟩), ("PierYears", 69, ⟨"PierYears$Rusty", "<init>", "()V"⟩), ("PierYears$Rusty", 1, ⟨"PierYears$Irons", "<init>", "()V"⟩), ("PierYears", 76, ⟨"PierYears$Wooden", "<init>", "()V"⟩), ("PierYears$Wooden", 1, ⟨"PierYears$Pier", "<init>", "()V"⟩), ("PierYears", 83, ⟨"PierYears$Piled", "<init>", "()V"⟩), ("PierYears$Piled", 1, ⟨"PierYears$Wooden", "<init>", "()V"⟩)]
def zcs : List (String × String) := [("PierYears$Cast", "PierYears$Irons"), ("PierYears$Rusty", "PierYears$Irons"), ("PierYears$Piled", "PierYears$Wooden"), ("PierYears$Cast", "PierYears$Pier"), ("PierYears$Irons", "PierYears$Pier"), ("PierYears$Piled", "PierYears$Pier"), ("PierYears$Rusty", "PierYears$Pier"), ("PierYears$Wooden", "PierYears$Pier")]
def znc : List (String × String) := [("PierYears$Wooden", "PierYears$Irons"), ("PierYears$Piled", "PierYears$Irons"), ("PierYears$Irons", "PierYears$Cast"), ("PierYears$Rusty", "PierYears$Cast"), ("PierYears$Wooden", "PierYears$Cast"), ("PierYears$Piled", "PierYears$Cast"), ("PierYears$Irons", "PierYears$Rusty"), ("PierYears$Cast", "PierYears$Rusty"), ("PierYears$Wooden", "PierYears$Rusty"), ("PierYears$Piled", "PierYears$Rusty"), ("PierYears$Irons", "PierYears$Wooden"), ("PierYears$Cast", "PierYears$Wooden"), ("PierYears$Rusty", "PierYears$Wooden"), ("PierYears$Irons", "PierYears$Piled"), ("PierYears$Cast", "PierYears$Piled"), ("PierYears$Rusty", "PierYears$Piled"), ("PierYears$Wooden", "PierYears$Piled")]
/-! THE SMALL MACHINE: values and cells by number, its judgement Z over the kit's W, one row an instruction -/
abbrev ZV : Type := Int ⊕ (Int ⊕ (Nat ⊕ (Nat ⊕ Unit)))
abbrev zI (z : Int) : ZV := .inl z
abbrev zJ (z : Int) : ZV := .inr (.inl z)
abbrev zR (k : Nat) : ZV := .inr (.inr (.inl k))
abbrev zT (k : Nat) : ZV := .inr (.inr (.inr (.inl k)))
abbrev zN : ZV := .inr (.inr (.inr (.inr ())))
abbrev ZC : Type := (Bool × Nat × (Nat → Int)) ⊕ (Nat × List ZV)
abbrev zA (n : Nat) (f : Nat → Int) : ZC := .inl (true, n, f)
abbrev zB (n : Nat) (f : Nat → Int) : ZC := .inl (false, n, f)
abbrev zO (ci : Nat) (fs : List ZV) : ZC := .inr (ci, fs)
abbrev ZH : Type := List ZC
abbrev ZL : Type := List (Option ZV)
/-- a method: its name, code, maxLocals, what it returns, how many parameters; level, new cells, new slots -/
abbrev ZY : Type := MethodName × ByteArray × Nat × Option FieldType × Nat × Nat × Nat × Nat
abbrev zyN (Y : ZY) : MethodName := Y.1
abbrev zyC (Y : ZY) : ByteArray := Y.2.1
abbrev zyL (Y : ZY) : Nat := Y.2.2.1
abbrev zyR (Y : ZY) : Option FieldType := Y.2.2.2.1
abbrev zyP (Y : ZY) : Nat := Y.2.2.2.2.1
abbrev zyD (Y : ZY) : Nat := Y.2.2.2.2.2.1
abbrev zyMc (Y : ZY) : Nat := Y.2.2.2.2.2.2.1
abbrev zyMs (Y : ZY) : Nat := Y.2.2.2.2.2.2.2
abbrev zRm (Y : ZY) : Room := { frames := zyD Y, cells := zyMc Y, slots := zyMs Y, locals := 34 * zyD Y }
def zTB : List Cond := lw_tbl.filter goodWord
abbrev zWs (Y : ZY) : List Cond := .code (zyN Y) (zyC Y) (zyL Y) (zyR Y) :: zTB
theorem zm (w : Cond) (i : Nat) (h : lw_tbl[i]? = some w) (hg : goodWord w = true) : w ∈ zTB := List.mem_filter.mpr ⟨List.mem_of_getElem? h, hg⟩
abbrev zin (z : Int) : Prop := -2147483648 ≤ z ∧ z ≤ 2147483647
theorem zin_toInt {z : Int} (h : zin z) : (Int32.ofInt z).toInt = z := Int32.toInt_ofInt_of_le (by have := h.1; omega) (by have := h.2; omega)
theorem zin_of (x : Int32) : zin x.toInt := ⟨by have := x.le_toInt; omega, by have := x.toInt_lt; omega⟩
theorem zof (x : Int32) : Int32.ofInt x.toInt = x := Int32.ofInt_toInt x
theorem z_lt {a b : Int} (ha : zin a) (hb : zin b) : Int32.ofInt a < Int32.ofInt b ↔ a < b := by rw [Int32.lt_iff_toInt_lt, zin_toInt ha, zin_toInt hb]
theorem z_le {a b : Int} (ha : zin a) (hb : zin b) : Int32.ofInt a ≤ Int32.ofInt b ↔ a ≤ b := by rw [Int32.le_iff_toInt_le, zin_toInt ha, zin_toInt hb]
theorem z_eq {a b : Int} (ha : zin a) (hb : zin b) : Int32.ofInt a = Int32.ofInt b ↔ a = b := by rw [← Int32.toInt_inj, zin_toInt ha, zin_toInt hb]
theorem z_zero : (0 : Int32) = Int32.ofInt 0 := rfl
def zv (ads : List Nat) (ro : Nat → Nat) : ZV → Option Value
  | .inl z => some (.int (Int32.ofInt z))
  | .inr (.inl z) => some (.long (Int64.ofInt z))
  | .inr (.inr (.inl k)) => (ads[k]?).map Value.ref
  | .inr (.inr (.inr (.inl k))) => some (.ref (ro k))
  | .inr (.inr (.inr (.inr _))) => some .null
def zcat : ZV → Nat
  | .inr (.inl _) => 2
  | _ => 1
theorem zv_cat {ads : List Nat} {ro : Nat → Nat} {v : ZV} {w : Value} (h : zv ads ro v = some w) : w.category = zcat v := by
  rcases v with z | z | k | k | u
  · cases h; rfl
  · cases h; rfl
  · simp only [zv, Option.map_eq_some_iff] at h
    obtain ⟨a, -, rfl⟩ := h
    rfl
  · cases h; rfl
  · cases h; rfl
theorem zv_mono {ads more : List Nat} {ro : Nat → Nat} {v : ZV} {w : Value} (h : zv ads ro v = some w) : zv (ads ++ more) ro v = some w := by
  rcases v with z | z | k | k | u
  · exact h
  · exact h
  · simp only [zv, Option.map_eq_some_iff] at h ⊢
    obtain ⟨a, ha, rfl⟩ := h
    exact ⟨a, by rw [List.getElem?_append_left (List.getElem?_eq_some_iff.mp ha).1]; exact ha, rfl⟩
  · exact h
  · exact h
theorem zmap_mono {ads more : List Nat} {ro : Nat → Nat} {S : List ZV} {st : List Value} (h : S.map (zv ads ro) = st.map some) : S.map (zv (ads ++ more) ro) = st.map some := by
  induction S generalizing st with
  | nil => exact h
  | cons v S ih =>
    cases st with
    | nil => simp at h
    | cons w st =>
      simp only [List.map_cons, List.cons.injEq] at h ⊢
      exact ⟨zv_mono h.1, ih h.2⟩
theorem zs_cons {f : ZV → Option Value} {v : ZV} {S : List ZV} {st : List Value} (h : (v :: S).map f = st.map some) : ∃ w st', st = w :: st' ∧ f v = some w ∧ S.map f = st'.map some := by
  cases st with
  | nil => simp at h
  | cons w st =>
    simp only [List.map_cons, List.cons.injEq] at h
    exact ⟨w, st, rfl, h.1, h.2⟩
theorem zs_nil {f : ZV → Option Value} {st : List Value} (h : ([] : List ZV).map f = st.map some) : st = [] := by
  cases st with
  | nil => rfl
  | cons w st => simp at h
theorem zs_push {f : ZV → Option Value} {v : ZV} {S : List ZV} {w : Value} {st : List Value} (hv : f v = some w) (h : S.map f = st.map some) : (v :: S).map f = (w :: st).map some := by
  simp only [List.map_cons, hv, h]
theorem zs_I {ads : List Nat} {ro : Nat → Nat} {z : Int} {S : List ZV} {st : List Value} (h : (zI z :: S).map (zv ads ro) = st.map some) : ∃ st', st = .int (Int32.ofInt z) :: st' ∧ S.map (zv ads ro) = st'.map some := by
  obtain ⟨w, st', rfl, hw, hs⟩ := zs_cons h
  cases hw
  exact ⟨st', rfl, hs⟩
theorem zs_J {ads : List Nat} {ro : Nat → Nat} {z : Int} {S : List ZV} {st : List Value} (h : (zJ z :: S).map (zv ads ro) = st.map some) : ∃ st', st = .long (Int64.ofInt z) :: st' ∧ S.map (zv ads ro) = st'.map some := by
  obtain ⟨w, st', rfl, hw, hs⟩ := zs_cons h
  cases hw
  exact ⟨st', rfl, hs⟩
theorem zv_R {ads : List Nat} {ro : Nat → Nat} {k : Nat} {w : Value} (h : zv ads ro (zR k) = some w) : ∃ a, ads[k]? = some a ∧ w = .ref a := by
  simp only [zv, zR, Option.map_eq_some_iff] at h
  obtain ⟨a, ha, rfl⟩ := h
  exact ⟨a, ha, rfl⟩
theorem zs_R {ads : List Nat} {ro : Nat → Nat} {k : Nat} {S : List ZV} {st : List Value} (h : (zR k :: S).map (zv ads ro) = st.map some) : ∃ a st', ads[k]? = some a ∧ st = .ref a :: st' ∧ S.map (zv ads ro) = st'.map some := by
  obtain ⟨w, st', rfl, hw, hs⟩ := zs_cons h
  obtain ⟨a, ha, rfl⟩ := zv_R hw
  exact ⟨a, st', ha, rfl, hs⟩
theorem zs_T {ads : List Nat} {ro : Nat → Nat} {k : Nat} {S : List ZV} {st : List Value} (h : (zT k :: S).map (zv ads ro) = st.map some) : ∃ st', st = .ref (ro k) :: st' ∧ S.map (zv ads ro) = st'.map some := by
  obtain ⟨w, st', rfl, hw, hs⟩ := zs_cons h
  cases hw
  exact ⟨st', rfl, hs⟩
theorem zs_at {f : ZV → Option Value} {fs : List ZV} {fs' : List Value} (h : fs.map f = fs'.map some) {k : Nat} {v : ZV} (hk : fs[k]? = some v) : ∃ w, fs'[k]? = some w ∧ f v = some w := by
  have h1 : (fs.map f)[k]? = some (f v) := by rw [List.getElem?_map, hk]; rfl
  rw [h, List.getElem?_map] at h1
  cases hw : fs'[k]? with
  | none => rw [hw] at h1; cases h1
  | some w => rw [hw] at h1; exact ⟨w, rfl, (Option.some.inj h1).symm⟩
theorem zs_set {f : ZV → Option Value} {fs : List ZV} {fs' : List Value} (h : fs.map f = fs'.map some) (k : Nat) {v : ZV} {w : Value} (hv : f v = some w) : (fs.set k v).map f = (fs'.set k w).map some := by
  rw [List.map_set, List.map_set, h, hv]
theorem zs_len {f : ZV → Option Value} {fs : List ZV} {fs' : List Value} (h : fs.map f = fs'.map some) : fs.length = fs'.length := by
  have := congrArg List.length h
  simpa using this
/-- a cell of the small machine, and what the kit's picture says of it -/
def zCR (tys : List (ClassId × FieldType)) (ads : List Nat) (ro : Nat → Nat) (c : ZC) (e : va_E) : Prop := match c with
  | .inl a => ∃ (cA : ClassId) (t0 : Nat), tys[t0]? = some (cA, if a.1 then FieldType.int else FieldType.boolean) ∧ e = .inl (cA, a.2.1, .inl (fun j => Int32.ofInt (a.2.2 j)))
  | .inr o => ∃ fs' : List Value, e = .inr (o.1, fs') ∧ o.2.map (zv ads ro) = fs'.map some
def zHR (tys : List (ClassId × FieldType)) (ro : Nat → Nat) (ws : va_W) (h : ZH) : Prop := ws.length = h.length ∧ ∀ (i : Nat) (c : ZC), h[i]? = some c → ∃ q : Nat × va_E, ws[i]? = some q ∧ zCR tys (ws.map (·.1)) ro c q.2
theorem zCR_mono {tys tm : List (ClassId × FieldType)} {ads more : List Nat} {ro : Nat → Nat} {c : ZC} {e : va_E} (h : zCR tys ads ro c e) : zCR (tys ++ tm) (ads ++ more) ro c e := by
  rcases c with a | o
  · obtain ⟨cA, t0, h1, h2⟩ := h
    exact ⟨cA, t0, by rw [List.getElem?_append_left (List.getElem?_eq_some_iff.mp h1).1]; exact h1, h2⟩
  · obtain ⟨fs', h1, h2⟩ := h
    exact ⟨fs', h1, zmap_mono h2⟩
theorem zads_set {ws : va_W} {o a : Nat} {e e' : va_E} (h : ws[o]? = some (a, e)) : (ws.set o (a, e')).map (·.1) = ws.map (·.1) := by
  rw [List.map_set]
  apply List.ext_getElem?
  intro i
  rw [List.getElem?_set]
  by_cases hi : o = i
  · subst hi
    obtain ⟨hl, he⟩ := List.getElem?_eq_some_iff.mp h
    simp [hl, he]
  · simp [hi]
theorem zHR_set {tys : List (ClassId × FieldType)} {ro : Nat → Nat} {ws : va_W} {h : ZH} (hr : zHR tys ro ws h) {o a : Nat} {e e' : va_E} {c : ZC} (ho : ws[o]? = some (a, e)) (hc : zCR tys (ws.map (·.1)) ro c e') : zHR tys ro (ws.set o (a, e')) (h.set o c) := by
  refine ⟨by rw [List.length_set, List.length_set]; exact hr.1, fun i x hx => ?_⟩
  rw [zads_set ho]
  rw [List.getElem?_set] at hx
  by_cases hi : o = i
  · subst hi
    have hl : o < ws.length := (List.getElem?_eq_some_iff.mp ho).1
    rw [if_pos rfl, if_pos (hr.1 ▸ hl)] at hx
    cases hx
    exact ⟨(a, e'), by rw [List.getElem?_set, if_pos rfl, if_pos hl], hc⟩
  · rw [if_neg hi] at hx
    obtain ⟨q, h1, h2⟩ := hr.2 i x hx
    exact ⟨q, by rw [List.getElem?_set, if_neg hi]; exact h1, h2⟩
theorem zHR_push {tys tm : List (ClassId × FieldType)} {ro : Nat → Nat} {ws : va_W} {h : ZH} (hr : zHR tys ro ws h) {q : Nat} {e : va_E} {c : ZC} (hc : zCR (tys ++ tm) (ws.map (·.1) ++ [q]) ro c e) : zHR (tys ++ tm) ro (ws ++ [(q, e)]) (h ++ [c]) := by
  refine ⟨by simp [hr.1], fun i x hx => ?_⟩
  have hm : (ws ++ [(q, e)]).map (·.1) = ws.map (·.1) ++ [q] := by simp
  rw [hm]
  by_cases hi : i < h.length
  · rw [List.getElem?_append_left hi] at hx
    obtain ⟨y, h1, h2⟩ := hr.2 i x hx
    exact ⟨y, by rw [List.getElem?_append_left (hr.1 ▸ hi)]; exact h1, zCR_mono h2⟩
  · rw [List.getElem?_append_right (by omega)] at hx
    have hz : i - h.length < 1 := (List.getElem?_eq_some_iff.mp hx).1
    have hi2 : i = h.length := by omega
    subst hi2
    simp at hx
    subst hx
    exact ⟨(q, e), by rw [← hr.1]; simp, hc⟩
def zWd (D : va_G) (A : Nat → Prop) (ro : Nat → Nat) (s : State) (H : Heap) (locs : List Loc) (ads : List Nat) (h : ZH) : Prop := ∃ (ws : va_W) (tys : List (ClassId × FieldType)), va_K D vwCl tys s ∧ va_P D vwCl ws H ∧ va_D A ws ∧ va_S A s.heap H locs ∧ ws.map (·.1) = ads ∧ zHR tys ro ws h
abbrev ZRC : Type := Nat → Option (Nat × (Nat → Int))
def zst : List (String × String) := [("PierYears", "LEAST_FIT"), ("PierYears", "MOST_FIT"), ("PierYears$Tape", "LEAST_OF_LAW"), ("PierYears$Tape", "MOST_OF_LAW"), ("PierYears$Tape", "LEAST_OF_PIER"), ("PierYears$Tape", "MOST_OF_PIER")]
/-- words that a warmed machine keeps, but not by 'keeps': nest mates' constructors, casts that hold, casts that don't -/
def zRO (rc : ZRC) (A : Nat → Prop) (ro : Nat → Nat) (U : State) : Prop :=
  (∀ (j n : Nat) (f : Nat → Int), rc j = some (n, f) → va_T .int (ro j) n (fun i => .int (Int32.ofInt (f i))) A U U.heap) ∧
  (∀ (j : Nat) (q : String × String), zst[j]? = some q → va_Z q.1 q.2 "[I" (.ref (ro j)) A U U.heap) ∧
  (∀ q ∈ zml, va_Nw (.methodLinkNest q.1 q.2.1 q.2.2 "PierYears") U) ∧ (∀ q ∈ zcs, va_Nw (.castable q.1 q.2) U) ∧ (∀ q ∈ znc, va_Nc q.1 q.2 U)
def zCx (rc : ZRC) (Y : ZY) (p : Program) (R : Room) (s : State) (m : MethodId) (args : Array Value) (meth : Method) (c : Code) (A : Nat → Prop) (ro : Nat → Nat) : Prop :=
  p.tables.exec = Jvm.exec ∧ c.code = zyC Y ∧ c.maxLocals = zyL Y ∧ meth.sig.returnType = zyR Y ∧ meth.locks = false ∧ s.vm.findClass (zyN Y).cls = some m.cls ∧ ((zyN Y).name = "<init>" → meth.name = "<init>") ∧ (∀ w ∈ zTB, w.before args s = true) ∧ (∀ q, s.heap.size ≤ q → A q) ∧ zRO rc A ro s ∧ (zyD Y ≤ R.frames ∧ 34 * zyD Y ≤ R.locals ∧ zyMc Y ≤ R.cells ∧ zyMs Y ≤ R.slots)
def zLR (ads : List Nat) (ro : Nat → Nat) (L : ZL) (ls : Array Slot) (nL : Nat) : Prop := lv_has ls nL [] ∧ ∀ (i : Nat) (v : ZV), L[i]? = some (some v) → ∃ w, zv ads ro v = some w ∧ ls[i]? = some (.val w)
theorem zLR_mono {ads more : List Nat} {ro : Nat → Nat} {L : ZL} {ls : Array Slot} {nL : Nat} (h : zLR ads ro L ls nL) : zLR (ads ++ more) ro L ls nL := ⟨h.1, fun i v hv => by
  obtain ⟨w, h1, h2⟩ := h.2 i v hv
  exact ⟨w, zv_mono h1, h2⟩⟩
/-- how a method ends: by its own return, with what it returns -/
def zRd (Y : ZY) (pc : Nat) (r : Option ZV) : Prop :=
  (zyR Y = none ∧ r = none ∧ decode (zyC Y) pc = .ok (.return_, 1)) ∨ (∃ z : Int, r = some (zI z) ∧ decode (zyC Y) pc = .ok (.ireturn, 1) ∧ (zyR Y = some .int ∨ (zyR Y = some .boolean ∧ (z = 0 ∨ z = 1)))) ∨ (∃ k : Nat, r = some (zR k) ∧ decode (zyC Y) pc = .ok (.areturn, 1) ∧ ∃ n, zyR Y = some (.object n))
def zRt (Y : ZY) (p : Program) (l : Launch) (e : Env) (R : Room) (s : State) (m : MethodId) (args : Array Value) (below : List Frame) (meth : Method) (c : Code) (D : va_G) (A : Nat → Prop) (ro : Nat → Nat) (ads0 : List Nat) (Q : Option ZV → ZH → Prop) (Qm : State → Prop) : Prop :=
  ∀ (pc : Nat) (H : Heap) (locs : List Loc) (more : List Nat) (ls : Array Slot) (st : List Value) (r : Option ZV) (h : ZH), Q r h → zWd D A ro s H locs (ads0 ++ more) h → r.toList.map (zv (ads0 ++ more) ro) = st.map some → zRd Y pc r → W p l e R s m args below meth c H locs (zyMc Y) (zyMs Y) Qm (F0 m pc ls st)
/-- THE JUDGEMENT: at pc, with locals L, stack S and heap h, kc cells and ks slots made since the entry, the method comes to its end with Q -/
def Z (rc : ZRC) (Y : ZY) (kc ks pc : Nat) (L : ZL) (S : List ZV) (h : ZH) (Q : Option ZV → ZH → Prop) : Prop :=
  ∀ ⦃p : Program⦄ ⦃l : Launch⦄ ⦃e : Env⦄ ⦃R : Room⦄ ⦃s : State⦄ ⦃m : MethodId⦄ ⦃args : Array Value⦄ ⦃below : List Frame⦄ ⦃meth : Method⦄ ⦃c : Code⦄ ⦃D : va_G⦄ ⦃A : Nat → Prop⦄ ⦃ro : Nat → Nat⦄ ⦃ads0 : List Nat⦄ ⦃Qm : State → Prop⦄ ⦃H : Heap⦄ ⦃locs : List Loc⦄ ⦃more : List Nat⦄ ⦃ls : Array Slot⦄ ⦃st : List Value⦄,
    zCx rc Y p R s m args meth c A ro → zRt Y p l e R s m args below meth c D A ro ads0 Q Qm → zWd D A ro s H locs (ads0 ++ more) h → zLR (ads0 ++ more) ro L ls (zyL Y) → S.map (zv (ads0 ++ more) ro) = st.map some → W p l e R s m args below meth c H locs kc ks Qm (F0 m pc ls st)
def zall (ls : Array Slot) : List (Nat × Value) := (List.range ls.size).filterMap fun (i : Nat) => match (ls[i]? : Option Slot) with
  | some (.val w) => some (i, w)
  | _ => none
theorem zall_mem {ls : Array Slot} {i : Nat} {w : Value} (h : ls[i]? = some (.val w)) : (i, w) ∈ zall ls := by
  refine List.mem_filterMap.mpr ⟨i, List.mem_range.mpr (Array.getElem?_eq_some_iff.mp h).1, ?_⟩
  simp [h]
theorem zall_has {ls : Array Slot} {nL : Nat} (h : lv_has ls nL []) : lv_has ls nL (zall ls) := by
  refine ⟨h.1, h.2.1, fun q hq => ?_⟩
  obtain ⟨i, -, hi⟩ := List.mem_filterMap.mp hq
  revert hi
  cases hx : ls[i]? with
  | none => intro hi; simp at hi
  | some y =>
    cases y with
    | val w => intro hi; simp at hi; subst hi; exact hx
    | _ => intro hi; simp at hi
def zpre (L : ZL) : Nat → Bool
  | 0 => true
  | j + 1 => match L[j]? with
    | some (some v) => zcat v == 1
    | _ => true
theorem zLR_store1 {ads : List Nat} {ro : Nat → Nat} {L : ZL} {ls ls' : Array Slot} {nL i : Nat} {v : ZV} {w : Value} (h : zLR ads ro L ls nL) (hp : zpre L i = true) (hv : zv ads ro v = some w)
    (hl : lv_has ls' nL ((i, w) :: (zall ls).filter (fun q => !(q.1 == i) && !(q.1 + 1 == i && q.2.category == 2)))) : zLR ads ro (L.set i (some v)) ls' nL := by
  refine ⟨⟨hl.1, hl.2.1, fun q hq => by cases hq⟩, fun j u hu => ?_⟩
  rw [List.getElem?_set] at hu
  by_cases hj : i = j
  · subst hj
    rw [if_pos rfl] at hu
    split at hu
    · cases hu
      exact ⟨w, hv, hl.2.2 (i, w) List.mem_cons_self⟩
    · cases hu
  · rw [if_neg hj] at hu
    obtain ⟨w', h1, h2⟩ := h.2 j u hu
    refine ⟨w', h1, hl.2.2 (j, w') (List.mem_cons_of_mem _ (List.mem_filter.mpr ⟨zall_mem h2, ?_⟩))⟩
    have hne : (j == i) = false := by simp [Ne.symm hj]
    have h3 : (j + 1 == i && w'.category == 2) = false := by
      by_cases hji : j + 1 = i
      · subst hji
        have h4 : (zcat u == 1) = true := by
          have h5 : (match L[j]? with
            | some (some v) => zcat v == 1
            | _ => true) = true := hp
          rw [hu] at h5
          exact h5
        rw [zv_cat h1, eq_of_beq h4]
        simp
      · simp [hji]
    simp only [hne, h3]
    rfl
theorem zLR_store2 {ads : List Nat} {ro : Nat → Nat} {L : ZL} {ls ls' : Array Slot} {nL i : Nat} {v : ZV} {w : Value} (h : zLR ads ro L ls nL) (hp : zpre L i = true) (hv : zv ads ro v = some w)
    (hl : lv_has ls' nL ((i, w) :: (zall ls).filter (fun q => !(q.1 == i) && (!(q.1 == i + 1) && !(q.1 + 1 == i && q.2.category == 2))))) : zLR ads ro ((L.set i (some v)).set (i + 1) none) ls' nL := by
  refine ⟨⟨hl.1, hl.2.1, fun q hq => by cases hq⟩, fun j u hu => ?_⟩
  rw [List.getElem?_set] at hu
  by_cases hj2 : i + 1 = j
  · subst hj2
    rw [if_pos rfl] at hu
    split at hu
    · cases hu
    · cases hu
  rw [if_neg hj2, List.getElem?_set] at hu
  by_cases hj : i = j
  · subst hj
    rw [if_pos rfl] at hu
    split at hu
    · cases hu
      exact ⟨w, hv, hl.2.2 (i, w) List.mem_cons_self⟩
    · cases hu
  · rw [if_neg hj] at hu
    obtain ⟨w', h1, h2⟩ := h.2 j u hu
    refine ⟨w', h1, hl.2.2 (j, w') (List.mem_cons_of_mem _ (List.mem_filter.mpr ⟨zall_mem h2, ?_⟩))⟩
    have hne : (j == i) = false := by simp [Ne.symm hj]
    have hne2 : (j == i + 1) = false := by simp [Ne.symm hj2]
    have h3 : (j + 1 == i && w'.category == 2) = false := by
      by_cases hji : j + 1 = i
      · subst hji
        have h4 : (zcat u == 1) = true := by
          have h5 : (match L[j]? with
            | some (some v) => zcat v == 1
            | _ => true) = true := hp
          rw [hu] at h5
          exact h5
        rw [zv_cat h1, eq_of_beq h4]
        simp
      · simp [hji]
    simp only [hne, hne2, h3]
    rfl
theorem zin0 : zin 0 := by decide
theorem z_iload {rc : ZRC} {Y : ZY} {kc ks pc : Nat} {L : ZL} {S : List ZV} {h : ZH} {Q : Option ZV → ZH → Prop} {i : Nat} {z : Int} (hd : decode (zyC Y) pc = .ok (.iload i, 2)) (hL : L[i]? = some (some (zI z))) (k : Z rc Y kc ks (pc + 2) L (zI z :: S) h Q) : Z rc Y kc ks pc L S h Q := by
  intro p l e R s m args below meth c D A ro ads0 Qm H locs more ls st hc hr hw hl hs
  obtain ⟨w, h1, h2⟩ := hl.2 _ _ hL
  cases h1
  exact lv_iload hc.1 hc.2.1 hd h2 (k hc hr hw hl (zs_push rfl hs))
theorem z_iload_n {rc : ZRC} {Y : ZY} {kc ks pc : Nat} {L : ZL} {S : List ZV} {h : ZH} {Q : Option ZV → ZH → Prop} {j : Fin 4} {z : Int} (hd : decode (zyC Y) pc = .ok (.iload_n j, 1)) (hL : L[(j : Nat)]? = some (some (zI z))) (k : Z rc Y kc ks (pc + 1) L (zI z :: S) h Q) : Z rc Y kc ks pc L S h Q := by
  intro p l e R s m args below meth c D A ro ads0 Qm H locs more ls st hc hr hw hl hs
  obtain ⟨w, h1, h2⟩ := hl.2 _ _ hL
  cases h1
  exact lv_iload_n hc.1 hc.2.1 hd rfl h2 (k hc hr hw hl (zs_push rfl hs))
theorem z_lload {rc : ZRC} {Y : ZY} {kc ks pc : Nat} {L : ZL} {S : List ZV} {h : ZH} {Q : Option ZV → ZH → Prop} {i : Nat} {z : Int} (hd : decode (zyC Y) pc = .ok (.lload i, 2)) (hL : L[i]? = some (some (zJ z))) (k : Z rc Y kc ks (pc + 2) L (zJ z :: S) h Q) : Z rc Y kc ks pc L S h Q := by
  intro p l e R s m args below meth c D A ro ads0 Qm H locs more ls st hc hr hw hl hs
  obtain ⟨w, h1, h2⟩ := hl.2 _ _ hL
  cases h1
  exact lv_lload hc.1 hc.2.1 hd h2 (k hc hr hw hl (zs_push rfl hs))
theorem z_lload_n {rc : ZRC} {Y : ZY} {kc ks pc : Nat} {L : ZL} {S : List ZV} {h : ZH} {Q : Option ZV → ZH → Prop} {j : Fin 4} {z : Int} (hd : decode (zyC Y) pc = .ok (.lload_n j, 1)) (hL : L[(j : Nat)]? = some (some (zJ z))) (k : Z rc Y kc ks (pc + 1) L (zJ z :: S) h Q) : Z rc Y kc ks pc L S h Q := by
  intro p l e R s m args below meth c D A ro ads0 Qm H locs more ls st hc hr hw hl hs
  obtain ⟨w, h1, h2⟩ := hl.2 _ _ hL
  cases h1
  exact lv_lload_n hc.1 hc.2.1 hd rfl h2 (k hc hr hw hl (zs_push rfl hs))
theorem z_aload {rc : ZRC} {Y : ZY} {kc ks pc : Nat} {L : ZL} {S : List ZV} {h : ZH} {Q : Option ZV → ZH → Prop} {i o : Nat} (hd : decode (zyC Y) pc = .ok (.aload i, 2)) (hL : L[i]? = some (some (zR o))) (k : Z rc Y kc ks (pc + 2) L (zR o :: S) h Q) : Z rc Y kc ks pc L S h Q := by
  intro p l e R s m args below meth c D A ro ads0 Qm H locs more ls st hc hr hw hl hs
  obtain ⟨w, h1, h2⟩ := hl.2 _ _ hL
  obtain ⟨a, ha, rfl⟩ := zv_R h1
  exact lv_aload hc.1 hc.2.1 hd h2 (k hc hr hw hl (zs_push h1 hs))
theorem z_aload_n {rc : ZRC} {Y : ZY} {kc ks pc : Nat} {L : ZL} {S : List ZV} {h : ZH} {Q : Option ZV → ZH → Prop} {j : Fin 4} {o : Nat} (hd : decode (zyC Y) pc = .ok (.aload_n j, 1)) (hL : L[(j : Nat)]? = some (some (zR o))) (k : Z rc Y kc ks (pc + 1) L (zR o :: S) h Q) : Z rc Y kc ks pc L S h Q := by
  intro p l e R s m args below meth c D A ro ads0 Qm H locs more ls st hc hr hw hl hs
  obtain ⟨w, h1, h2⟩ := hl.2 _ _ hL
  obtain ⟨a, ha, rfl⟩ := zv_R h1
  exact lv_aload_n hc.1 hc.2.1 hd rfl h2 (k hc hr hw hl (zs_push h1 hs))
theorem z_aloadT {rc : ZRC} {Y : ZY} {kc ks pc : Nat} {L : ZL} {S : List ZV} {h : ZH} {Q : Option ZV → ZH → Prop} {i o : Nat} (hd : decode (zyC Y) pc = .ok (.aload i, 2)) (hL : L[i]? = some (some (zT o))) (k : Z rc Y kc ks (pc + 2) L (zT o :: S) h Q) : Z rc Y kc ks pc L S h Q := by
  intro p l e R s m args below meth c D A ro ads0 Qm H locs more ls st hc hr hw hl hs
  obtain ⟨w, h1, h2⟩ := hl.2 _ _ hL
  cases h1
  exact lv_aload hc.1 hc.2.1 hd h2 (k hc hr hw hl (zs_push rfl hs))
theorem z_aload_nT {rc : ZRC} {Y : ZY} {kc ks pc : Nat} {L : ZL} {S : List ZV} {h : ZH} {Q : Option ZV → ZH → Prop} {j : Fin 4} {o : Nat} (hd : decode (zyC Y) pc = .ok (.aload_n j, 1)) (hL : L[(j : Nat)]? = some (some (zT o))) (k : Z rc Y kc ks (pc + 1) L (zT o :: S) h Q) : Z rc Y kc ks pc L S h Q := by
  intro p l e R s m args below meth c D A ro ads0 Qm H locs more ls st hc hr hw hl hs
  obtain ⟨w, h1, h2⟩ := hl.2 _ _ hL
  cases h1
  exact lv_aload_n hc.1 hc.2.1 hd rfl h2 (k hc hr hw hl (zs_push rfl hs))
theorem z_istore {rc : ZRC} {Y : ZY} {kc ks pc : Nat} {L : ZL} {S : List ZV} {h : ZH} {Q : Option ZV → ZH → Prop} {i : Nat} {z : Int} (hd : decode (zyC Y) pc = .ok (.istore i, 2)) (hn : i < zyL Y) (hp : zpre L i = true) (k : Z rc Y kc ks (pc + 2) (L.set i (some (zI z))) S h Q) : Z rc Y kc ks pc L (zI z :: S) h Q := by
  intro p l e R s m args below meth c D A ro ads0 Qm H locs more ls st hc hr hw hl hs
  obtain ⟨st', rfl, hs'⟩ := zs_I hs
  exact lv_istore hc.1 hc.2.1 hd (zall_has hl.1) hn rfl (fun ls' hl' => k hc hr hw (zLR_store1 hl hp rfl hl') hs')
theorem z_istore_n {rc : ZRC} {Y : ZY} {kc ks pc : Nat} {L : ZL} {S : List ZV} {h : ZH} {Q : Option ZV → ZH → Prop} {j : Fin 4} {z : Int} (hd : decode (zyC Y) pc = .ok (.istore_n j, 1)) (hn : (j : Nat) < zyL Y) (hp : zpre L j = true) (k : Z rc Y kc ks (pc + 1) (L.set (j : Nat) (some (zI z))) S h Q) : Z rc Y kc ks pc L (zI z :: S) h Q := by
  intro p l e R s m args below meth c D A ro ads0 Qm H locs more ls st hc hr hw hl hs
  obtain ⟨st', rfl, hs'⟩ := zs_I hs
  exact lv_istore_n hc.1 hc.2.1 hd rfl (zall_has hl.1) hn rfl (fun ls' hl' => k hc hr hw (zLR_store1 hl hp rfl hl') hs')
theorem z_lstore {rc : ZRC} {Y : ZY} {kc ks pc : Nat} {L : ZL} {S : List ZV} {h : ZH} {Q : Option ZV → ZH → Prop} {i : Nat} {z : Int} (hd : decode (zyC Y) pc = .ok (.lstore i, 2)) (hn : i + 1 < zyL Y) (hp : zpre L i = true) (k : Z rc Y kc ks (pc + 2) ((L.set i (some (zJ z))).set (i + 1) none) S h Q) : Z rc Y kc ks pc L (zJ z :: S) h Q := by
  intro p l e R s m args below meth c D A ro ads0 Qm H locs more ls st hc hr hw hl hs
  obtain ⟨st', rfl, hs'⟩ := zs_J hs
  exact lv_lstore hc.1 hc.2.1 hd (zall_has hl.1) hn rfl (fun ls' hl' => k hc hr hw (zLR_store2 hl hp rfl hl') hs')
theorem z_astore_n {rc : ZRC} {Y : ZY} {kc ks pc : Nat} {L : ZL} {S : List ZV} {h : ZH} {Q : Option ZV → ZH → Prop} {j : Fin 4} {o : Nat} (hd : decode (zyC Y) pc = .ok (.astore_n j, 1)) (hn : (j : Nat) < zyL Y) (hp : zpre L j = true) (k : Z rc Y kc ks (pc + 1) (L.set (j : Nat) (some (zR o))) S h Q) : Z rc Y kc ks pc L (zR o :: S) h Q := by
  intro p l e R s m args below meth c D A ro ads0 Qm H locs more ls st hc hr hw hl hs
  obtain ⟨a, st', ha, rfl, hs'⟩ := zs_R hs
  exact lv_astore_n hc.1 hc.2.1 hd rfl (zall_has hl.1) hn rfl (fun ls' hl' => k hc hr hw (zLR_store1 hl hp (by simp [zv, ha]) hl') hs')
theorem z_iinc {rc : ZRC} {Y : ZY} {kc ks pc : Nat} {L : ZL} {S : List ZV} {h : ZH} {Q : Option ZV → ZH → Prop} {i : Nat} {n z : Int} (hd : decode (zyC Y) pc = .ok (.iinc i n, 3)) (hL : L[i]? = some (some (zI z))) (hn : i < zyL Y) (hp : zpre L i = true) (k : Z rc Y kc ks (pc + 3) (L.set i (some (zI (z + n)))) S h Q) : Z rc Y kc ks pc L S h Q := by
  intro p l e R s m args below meth c D A ro ads0 Qm H locs more ls st hc hr hw hl hs
  obtain ⟨w, h1, h2⟩ := hl.2 _ _ hL
  cases h1
  obtain ⟨q, hq⟩ := List.getElem?_of_mem (zall_mem h2)
  exact lv_iinc (v := Int32.ofInt (z + n)) hc.1 hc.2.1 hd (zall_has hl.1) hq (by rw [Int32.ofInt_add]) hn rfl (fun ls' hl' => k hc hr hw (zLR_store1 hl hp rfl hl') hs)
theorem z_iconst {rc : ZRC} {Y : ZY} {kc ks pc : Nat} {L : ZL} {S : List ZV} {h : ZH} {Q : Option ZV → ZH → Prop} {n : Int} (hd : decode (zyC Y) pc = .ok (.iconst n, 1)) (k : Z rc Y kc ks (pc + 1) L (zI n :: S) h Q) : Z rc Y kc ks pc L S h Q := by
  intro p l e R s m args below meth c D A ro ads0 Qm H locs more ls st hc hr hw hl hs
  exact lv_iconst hc.1 hc.2.1 hd rfl (k hc hr hw hl (zs_push rfl hs))
theorem z_bipush {rc : ZRC} {Y : ZY} {kc ks pc : Nat} {L : ZL} {S : List ZV} {h : ZH} {Q : Option ZV → ZH → Prop} {n : Int} (hd : decode (zyC Y) pc = .ok (.bipush n, 2)) (hv : (Int8.ofInt n).toInt32 = Int32.ofInt n) (k : Z rc Y kc ks (pc + 2) L (zI n :: S) h Q) : Z rc Y kc ks pc L S h Q := by
  intro p l e R s m args below meth c D A ro ads0 Qm H locs more ls st hc hr hw hl hs
  exact lv_bipush hc.1 hc.2.1 hd hv (k hc hr hw hl (zs_push rfl hs))
theorem z_sipush {rc : ZRC} {Y : ZY} {kc ks pc : Nat} {L : ZL} {S : List ZV} {h : ZH} {Q : Option ZV → ZH → Prop} {n : Int} (hd : decode (zyC Y) pc = .ok (.sipush n, 3)) (hv : (Int16.ofInt n).toInt32 = Int32.ofInt n) (k : Z rc Y kc ks (pc + 3) L (zI n :: S) h Q) : Z rc Y kc ks pc L S h Q := by
  intro p l e R s m args below meth c D A ro ads0 Qm H locs more ls st hc hr hw hl hs
  exact lv_sipush hc.1 hc.2.1 hd hv (k hc hr hw hl (zs_push rfl hs))
theorem z_lconst {rc : ZRC} {Y : ZY} {kc ks pc : Nat} {L : ZL} {S : List ZV} {h : ZH} {Q : Option ZV → ZH → Prop} {n : Fin 2} (hd : decode (zyC Y) pc = .ok (.lconst n, 1)) (k : Z rc Y kc ks (pc + 1) L (zJ ((n : Nat) : Int) :: S) h Q) : Z rc Y kc ks pc L S h Q := by
  intro p l e R s m args below meth c D A ro ads0 Qm H locs more ls st hc hr hw hl hs
  exact lv_lconst (v := Int64.ofInt ((n : Nat) : Int)) hc.1 hc.2.1 hd (Int64.ofInt_eq_ofNat).symm (k hc hr hw hl (zs_push rfl hs))
theorem z_ldc {rc : ZRC} {Y : ZY} {kc ks pc : Nat} {L : ZL} {S : List ZV} {h : ZH} {Q : Option ZV → ZH → Prop} {idx : Nat} {v : Int32} {n : Int} (hd : decode (zyC Y) pc = .ok (.ldc idx, 2)) (hwd : Cond.constant (zyN Y).cls idx v ∈ zTB) (hv : v = Int32.ofInt n) (k : Z rc Y kc ks (pc + 2) L (zI n :: S) h Q) : Z rc Y kc ks pc L S h Q := by
  intro p l e R s m args below meth c D A ro ads0 Qm H locs more ls st hc hr hw hl hs
  subst hv
  exact lv_ldc hc.1 hc.2.1 hc.2.2.2.2.2.1 (hc.2.2.2.2.2.2.2.1 _ hwd) hd (k hc hr hw hl (zs_push rfl hs))
theorem z_ldcw {rc : ZRC} {Y : ZY} {kc ks pc : Nat} {L : ZL} {S : List ZV} {h : ZH} {Q : Option ZV → ZH → Prop} {idx : Nat} {v : Int32} {n : Int} (hd : decode (zyC Y) pc = .ok (.ldc_w idx, 3)) (hwd : Cond.constant (zyN Y).cls idx v ∈ zTB) (hv : v = Int32.ofInt n) (k : Z rc Y kc ks (pc + 3) L (zI n :: S) h Q) : Z rc Y kc ks pc L S h Q := by
  intro p l e R s m args below meth c D A ro ads0 Qm H locs more ls st hc hr hw hl hs
  subst hv
  exact lv_ldcw hc.1 hc.2.1 hc.2.2.2.2.2.1 (hc.2.2.2.2.2.2.2.1 _ hwd) hd (k hc hr hw hl (zs_push rfl hs))
theorem z_ldc2 {rc : ZRC} {Y : ZY} {kc ks pc : Nat} {L : ZL} {S : List ZV} {h : ZH} {Q : Option ZV → ZH → Prop} {idx : Nat} {v : Int64} {n : Int} (hd : decode (zyC Y) pc = .ok (.ldc2_w idx, 3)) (hwd : Cond.constantLong (zyN Y).cls idx v ∈ zTB) (hv : v = Int64.ofInt n) (k : Z rc Y kc ks (pc + 3) L (zJ n :: S) h Q) : Z rc Y kc ks pc L S h Q := by
  intro p l e R s m args below meth c D A ro ads0 Qm H locs more ls st hc hr hw hl hs
  subst hv
  exact lv_ldc2 hc.1 hc.2.1 hc.2.2.2.2.2.1 (hc.2.2.2.2.2.2.2.1 _ hwd) hd (k hc hr hw hl (zs_push rfl hs))
theorem z_iadd {rc : ZRC} {Y : ZY} {kc ks pc : Nat} {L : ZL} {S : List ZV} {h : ZH} {Q : Option ZV → ZH → Prop} {a b : Int} (hd : decode (zyC Y) pc = .ok (.iadd, 1)) (k : Z rc Y kc ks (pc + 1) L (zI (a + b) :: S) h Q) : Z rc Y kc ks pc L (zI b :: zI a :: S) h Q := by
  intro p l e R s m args below meth c D A ro ads0 Qm H locs more ls st hc hr hw hl hs
  obtain ⟨st1, rfl, hs1⟩ := zs_I hs
  obtain ⟨st2, rfl, hs2⟩ := zs_I hs1
  exact lv_iadd hc.1 hc.2.1 hd (k hc hr hw hl (zs_push (congrArg (fun x => some (Value.int x)) (Int32.ofInt_add a b)) hs2))
theorem z_isub {rc : ZRC} {Y : ZY} {kc ks pc : Nat} {L : ZL} {S : List ZV} {h : ZH} {Q : Option ZV → ZH → Prop} {a b : Int} (hd : decode (zyC Y) pc = .ok (.isub, 1)) (k : Z rc Y kc ks (pc + 1) L (zI (a - b) :: S) h Q) : Z rc Y kc ks pc L (zI b :: zI a :: S) h Q := by
  intro p l e R s m args below meth c D A ro ads0 Qm H locs more ls st hc hr hw hl hs
  obtain ⟨st1, rfl, hs1⟩ := zs_I hs
  obtain ⟨st2, rfl, hs2⟩ := zs_I hs1
  exact lv_isub hc.1 hc.2.1 hd (k hc hr hw hl (zs_push (congrArg (fun x => some (Value.int x)) (Int32.ofInt_sub a b)) hs2))
theorem z_imul {rc : ZRC} {Y : ZY} {kc ks pc : Nat} {L : ZL} {S : List ZV} {h : ZH} {Q : Option ZV → ZH → Prop} {a b : Int} (hd : decode (zyC Y) pc = .ok (.imul, 1)) (k : Z rc Y kc ks (pc + 1) L (zI (a * b) :: S) h Q) : Z rc Y kc ks pc L (zI b :: zI a :: S) h Q := by
  intro p l e R s m args below meth c D A ro ads0 Qm H locs more ls st hc hr hw hl hs
  obtain ⟨st1, rfl, hs1⟩ := zs_I hs
  obtain ⟨st2, rfl, hs2⟩ := zs_I hs1
  exact lv_imul hc.1 hc.2.1 hd (k hc hr hw hl (zs_push (congrArg (fun x => some (Value.int x)) (Int32.ofInt_mul a b)) hs2))
theorem z_ineg {rc : ZRC} {Y : ZY} {kc ks pc : Nat} {L : ZL} {S : List ZV} {h : ZH} {Q : Option ZV → ZH → Prop} {a : Int} (hd : decode (zyC Y) pc = .ok (.ineg, 1)) (k : Z rc Y kc ks (pc + 1) L (zI (-a) :: S) h Q) : Z rc Y kc ks pc L (zI a :: S) h Q := by
  intro p l e R s m args below meth c D A ro ads0 Qm H locs more ls st hc hr hw hl hs
  obtain ⟨st1, rfl, hs1⟩ := zs_I hs
  exact lv_ineg hc.1 hc.2.1 hd (k hc hr hw hl (zs_push (congrArg (fun x => some (Value.int x)) (Int32.ofInt_neg a)) hs1))
theorem zdiv {a b : Int} (ha : zin a) (hb : zin b) : Int32.ofInt a / Int32.ofInt b = Int32.ofInt (a.tdiv b) := Int32.toInt_inj.mp (by rw [Int32.toInt_div, Int32.toInt_ofInt (n := a.tdiv b), zin_toInt ha, zin_toInt hb])
theorem zrem {a b : Int} (ha : zin a) (hb : zin b) : Int32.ofInt a - Int32.ofInt a / Int32.ofInt b * Int32.ofInt b = Int32.ofInt (a.tmod b) := by
  rw [zdiv ha hb, ← Int32.ofInt_mul, ← Int32.ofInt_sub, Int.tmod_def, Int.mul_comm b]
theorem zne0 {b : Int} (hb : zin b) (h : b ≠ 0) : ¬ Int32.ofInt b = 0 := by
  rw [z_zero, z_eq hb (by decide)]; exact h
theorem z_idiv {rc : ZRC} {Y : ZY} {kc ks pc : Nat} {L : ZL} {S : List ZV} {h : ZH} {Q : Option ZV → ZH → Prop} {a b : Int} (hd : decode (zyC Y) pc = .ok (.idiv, 1)) (ha : zin a) (hb : zin b) (h0 : 0 ≤ a) (h1 : b ≠ 0) (k : Z rc Y kc ks (pc + 1) L (zI (a / b) :: S) h Q) : Z rc Y kc ks pc L (zI b :: zI a :: S) h Q := by
  intro p l e R s m args below meth c D A ro ads0 Qm H locs more ls st hc hr hw hl hs
  obtain ⟨st1, rfl, hs1⟩ := zs_I hs
  obtain ⟨st2, rfl, hs2⟩ := zs_I hs1
  exact lv_idiv hc.1 hc.2.1 hd (zne0 hb h1) (k hc hr hw hl (zs_push (congrArg (fun x => some (Value.int x)) (by rw [zdiv ha hb, Int.tdiv_eq_ediv_of_nonneg h0])) hs2))
theorem z_irem {rc : ZRC} {Y : ZY} {kc ks pc : Nat} {L : ZL} {S : List ZV} {h : ZH} {Q : Option ZV → ZH → Prop} {a b : Int} (hd : decode (zyC Y) pc = .ok (.irem, 1)) (ha : zin a) (hb : zin b) (h0 : 0 ≤ a) (h1 : b ≠ 0) (k : Z rc Y kc ks (pc + 1) L (zI (a % b) :: S) h Q) : Z rc Y kc ks pc L (zI b :: zI a :: S) h Q := by
  intro p l e R s m args below meth c D A ro ads0 Qm H locs more ls st hc hr hw hl hs
  obtain ⟨st1, rfl, hs1⟩ := zs_I hs
  obtain ⟨st2, rfl, hs2⟩ := zs_I hs1
  exact lv_irem hc.1 hc.2.1 hd (zne0 hb h1) (k hc hr hw hl (zs_push (congrArg (fun x => some (Value.int x)) (by rw [zrem ha hb, Int.tmod_eq_emod_of_nonneg h0])) hs2))
theorem z_iremT {rc : ZRC} {Y : ZY} {kc ks pc : Nat} {L : ZL} {S : List ZV} {h : ZH} {Q : Option ZV → ZH → Prop} {a b : Int} (hd : decode (zyC Y) pc = .ok (.irem, 1)) (ha : zin a) (hb : zin b) (h1 : b ≠ 0) (k : Z rc Y kc ks (pc + 1) L (zI (a.tmod b) :: S) h Q) : Z rc Y kc ks pc L (zI b :: zI a :: S) h Q := by
  intro p l e R s m args below meth c D A ro ads0 Qm H locs more ls st hc hr hw hl hs
  obtain ⟨st1, rfl, hs1⟩ := zs_I hs
  obtain ⟨st2, rfl, hs2⟩ := zs_I hs1
  exact lv_irem hc.1 hc.2.1 hd (zne0 hb h1) (k hc hr hw hl (zs_push (congrArg (fun x => some (Value.int x)) (zrem ha hb).symm) hs2))
theorem z_iand {rc : ZRC} {Y : ZY} {kc ks pc : Nat} {L : ZL} {S : List ZV} {h : ZH} {Q : Option ZV → ZH → Prop} {a b : Int} (v : Int) (hd : decode (zyC Y) pc = .ok (.iand, 1)) (hv : Int32.ofInt a &&& Int32.ofInt b = Int32.ofInt v) (k : Z rc Y kc ks (pc + 1) L (zI v :: S) h Q) : Z rc Y kc ks pc L (zI b :: zI a :: S) h Q := by
  intro p l e R s m args below meth c D A ro ads0 Qm H locs more ls st hc hr hw hl hs
  obtain ⟨st1, rfl, hs1⟩ := zs_I hs
  obtain ⟨st2, rfl, hs2⟩ := zs_I hs1
  exact lv_iand hc.1 hc.2.1 hd (k hc hr hw hl (zs_push (congrArg (fun x => some (Value.int x)) hv.symm) hs2))
theorem z_ior {rc : ZRC} {Y : ZY} {kc ks pc : Nat} {L : ZL} {S : List ZV} {h : ZH} {Q : Option ZV → ZH → Prop} {a b : Int} (v : Int) (hd : decode (zyC Y) pc = .ok (.ior, 1)) (hv : Int32.ofInt a ||| Int32.ofInt b = Int32.ofInt v) (k : Z rc Y kc ks (pc + 1) L (zI v :: S) h Q) : Z rc Y kc ks pc L (zI b :: zI a :: S) h Q := by
  intro p l e R s m args below meth c D A ro ads0 Qm H locs more ls st hc hr hw hl hs
  obtain ⟨st1, rfl, hs1⟩ := zs_I hs
  obtain ⟨st2, rfl, hs2⟩ := zs_I hs1
  exact lv_ior hc.1 hc.2.1 hd (k hc hr hw hl (zs_push (congrArg (fun x => some (Value.int x)) hv.symm) hs2))
theorem z_ixor {rc : ZRC} {Y : ZY} {kc ks pc : Nat} {L : ZL} {S : List ZV} {h : ZH} {Q : Option ZV → ZH → Prop} {a b : Int} (v : Int) (hd : decode (zyC Y) pc = .ok (.ixor, 1)) (hv : Int32.ofInt a ^^^ Int32.ofInt b = Int32.ofInt v) (k : Z rc Y kc ks (pc + 1) L (zI v :: S) h Q) : Z rc Y kc ks pc L (zI b :: zI a :: S) h Q := by
  intro p l e R s m args below meth c D A ro ads0 Qm H locs more ls st hc hr hw hl hs
  obtain ⟨st1, rfl, hs1⟩ := zs_I hs
  obtain ⟨st2, rfl, hs2⟩ := zs_I hs1
  exact lv_ixor hc.1 hc.2.1 hd (k hc hr hw hl (zs_push (congrArg (fun x => some (Value.int x)) hv.symm) hs2))
theorem z_ishl {rc : ZRC} {Y : ZY} {kc ks pc : Nat} {L : ZL} {S : List ZV} {h : ZH} {Q : Option ZV → ZH → Prop} {a b : Int} (v : Int) (hd : decode (zyC Y) pc = .ok (.ishl, 1)) (hv : Int32.ofInt a <<< (Int32.ofInt b &&& 31) = Int32.ofInt v) (k : Z rc Y kc ks (pc + 1) L (zI v :: S) h Q) : Z rc Y kc ks pc L (zI b :: zI a :: S) h Q := by
  intro p l e R s m args below meth c D A ro ads0 Qm H locs more ls st hc hr hw hl hs
  obtain ⟨st1, rfl, hs1⟩ := zs_I hs
  obtain ⟨st2, rfl, hs2⟩ := zs_I hs1
  exact lv_ishl hc.1 hc.2.1 hd (k hc hr hw hl (zs_push (congrArg (fun x => some (Value.int x)) hv.symm) hs2))
theorem z_ishr {rc : ZRC} {Y : ZY} {kc ks pc : Nat} {L : ZL} {S : List ZV} {h : ZH} {Q : Option ZV → ZH → Prop} {a b : Int} (v : Int) (hd : decode (zyC Y) pc = .ok (.ishr, 1)) (hv : Int32.ofInt a >>> (Int32.ofInt b &&& 31) = Int32.ofInt v) (k : Z rc Y kc ks (pc + 1) L (zI v :: S) h Q) : Z rc Y kc ks pc L (zI b :: zI a :: S) h Q := by
  intro p l e R s m args below meth c D A ro ads0 Qm H locs more ls st hc hr hw hl hs
  obtain ⟨st1, rfl, hs1⟩ := zs_I hs
  obtain ⟨st2, rfl, hs2⟩ := zs_I hs1
  exact lv_ishr hc.1 hc.2.1 hd (k hc hr hw hl (zs_push (congrArg (fun x => some (Value.int x)) hv.symm) hs2))
theorem z_i2b {rc : ZRC} {Y : ZY} {kc ks pc : Nat} {L : ZL} {S : List ZV} {h : ZH} {Q : Option ZV → ZH → Prop} {a : Int} (hd : decode (zyC Y) pc = .ok (.i2b, 1)) (k : Z rc Y kc ks (pc + 1) L (zI ((Int32.ofInt a).toInt8.toInt32).toInt :: S) h Q) : Z rc Y kc ks pc L (zI a :: S) h Q := by
  intro p l e R s m args below meth c D A ro ads0 Qm H locs more ls st hc hr hw hl hs
  obtain ⟨st1, rfl, hs1⟩ := zs_I hs
  exact lv_i2b hc.1 hc.2.1 hd rfl (k hc hr hw hl (zs_push (by show some (Value.int (Int32.ofInt _)) = _; rw [zof]) hs1))
theorem z_i2s {rc : ZRC} {Y : ZY} {kc ks pc : Nat} {L : ZL} {S : List ZV} {h : ZH} {Q : Option ZV → ZH → Prop} {a : Int} (hd : decode (zyC Y) pc = .ok (.i2s, 1)) (k : Z rc Y kc ks (pc + 1) L (zI ((Int32.ofInt a).toInt16.toInt32).toInt :: S) h Q) : Z rc Y kc ks pc L (zI a :: S) h Q := by
  intro p l e R s m args below meth c D A ro ads0 Qm H locs more ls st hc hr hw hl hs
  obtain ⟨st1, rfl, hs1⟩ := zs_I hs
  exact lv_i2s hc.1 hc.2.1 hd rfl (k hc hr hw hl (zs_push (by show some (Value.int (Int32.ofInt _)) = _; rw [zof]) hs1))
theorem z_i2l {rc : ZRC} {Y : ZY} {kc ks pc : Nat} {L : ZL} {S : List ZV} {h : ZH} {Q : Option ZV → ZH → Prop} {a : Int} (hd : decode (zyC Y) pc = .ok (.i2l, 1)) (ha : zin a) (k : Z rc Y kc ks (pc + 1) L (zJ a :: S) h Q) : Z rc Y kc ks pc L (zI a :: S) h Q := by
  intro p l e R s m args below meth c D A ro ads0 Qm H locs more ls st hc hr hw hl hs
  obtain ⟨st1, rfl, hs1⟩ := zs_I hs
  exact lv_i2l hc.1 hc.2.1 hd (Int32.toInt64_ofInt (show (-2147483648 : Int) ≤ a from ha.1) (show a ≤ (2147483647 : Int) from ha.2)) (k hc hr hw hl (zs_push rfl hs1))
theorem z_l2i {rc : ZRC} {Y : ZY} {kc ks pc : Nat} {L : ZL} {S : List ZV} {h : ZH} {Q : Option ZV → ZH → Prop} {a : Int} (hd : decode (zyC Y) pc = .ok (.l2i, 1)) (k : Z rc Y kc ks (pc + 1) L (zI a :: S) h Q) : Z rc Y kc ks pc L (zJ a :: S) h Q := by
  intro p l e R s m args below meth c D A ro ads0 Qm H locs more ls st hc hr hw hl hs
  obtain ⟨st1, rfl, hs1⟩ := zs_J hs
  exact lv_l2i hc.1 hc.2.1 hd Int64.toInt32_ofInt (k hc hr hw hl (zs_push rfl hs1))
theorem z_lmul {rc : ZRC} {Y : ZY} {kc ks pc : Nat} {L : ZL} {S : List ZV} {h : ZH} {Q : Option ZV → ZH → Prop} {a b : Int} (hd : decode (zyC Y) pc = .ok (.lmul, 1)) (k : Z rc Y kc ks (pc + 1) L (zJ (a * b) :: S) h Q) : Z rc Y kc ks pc L (zJ b :: zJ a :: S) h Q := by
  intro p l e R s m args below meth c D A ro ads0 Qm H locs more ls st hc hr hw hl hs
  obtain ⟨st1, rfl, hs1⟩ := zs_J hs
  obtain ⟨st2, rfl, hs2⟩ := zs_J hs1
  exact lv_lmul hc.1 hc.2.1 hd (k hc hr hw hl (zs_push (congrArg (fun x => some (Value.long x)) (Int64.ofInt_mul a b)) hs2))
abbrev zin8 (z : Int) : Prop := -9223372036854775808 ≤ z ∧ z ≤ 9223372036854775807
theorem zin8_toInt {z : Int} (h : zin8 z) : (Int64.ofInt z).toInt = z := Int64.toInt_ofInt_of_le (by have := h.1; omega) (by have := h.2; omega)
theorem z_lt8 {a b : Int} (ha : zin8 a) (hb : zin8 b) : Int64.ofInt a < Int64.ofInt b ↔ a < b := by rw [Int64.lt_iff_toInt_lt, zin8_toInt ha, zin8_toInt hb]
theorem z_eq8 {a b : Int} (ha : zin8 a) (hb : zin8 b) : Int64.ofInt a = Int64.ofInt b ↔ a = b := by rw [← Int64.toInt_inj, zin8_toInt ha, zin8_toInt hb]
theorem zdiv8 {a b : Int} (ha : zin8 a) (hb : zin8 b) : Int64.ofInt a / Int64.ofInt b = Int64.ofInt (a.tdiv b) := Int64.toInt_inj.mp (by rw [Int64.toInt_div, Int64.toInt_ofInt (n := a.tdiv b), zin8_toInt ha, zin8_toInt hb])
theorem zrem8 {a b : Int} (ha : zin8 a) (hb : zin8 b) : Int64.ofInt a - Int64.ofInt a / Int64.ofInt b * Int64.ofInt b = Int64.ofInt (a.tmod b) := by
  rw [zdiv8 ha hb, ← Int64.ofInt_mul, ← Int64.ofInt_sub, Int.tmod_def, Int.mul_comm b]
theorem zne08 {b : Int} (hb : zin8 b) (h : b ≠ 0) : ¬ Int64.ofInt b = 0 := by
  rw [show (0 : Int64) = Int64.ofInt 0 from rfl, z_eq8 hb (by decide)]; exact h
theorem z_lrem {rc : ZRC} {Y : ZY} {kc ks pc : Nat} {L : ZL} {S : List ZV} {h : ZH} {Q : Option ZV → ZH → Prop} {a b : Int} (hd : decode (zyC Y) pc = .ok (.lrem, 1)) (ha : zin8 a) (hb : zin8 b) (h0 : 0 ≤ a) (h1 : b ≠ 0) (k : Z rc Y kc ks (pc + 1) L (zJ (a % b) :: S) h Q) : Z rc Y kc ks pc L (zJ b :: zJ a :: S) h Q := by
  intro p l e R s m args below meth c D A ro ads0 Qm H locs more ls st hc hr hw hl hs
  obtain ⟨st1, rfl, hs1⟩ := zs_J hs
  obtain ⟨st2, rfl, hs2⟩ := zs_J hs1
  exact lv_lrem hc.1 hc.2.1 hd (zne08 hb h1) (k hc hr hw hl (zs_push (congrArg (fun x => some (Value.long x)) (by rw [zrem8 ha hb, Int.tmod_eq_emod_of_nonneg h0])) hs2))
theorem z_lcmp {rc : ZRC} {Y : ZY} {kc ks pc : Nat} {L : ZL} {S : List ZV} {h : ZH} {Q : Option ZV → ZH → Prop} {a b : Int} (hd : decode (zyC Y) pc = .ok (.lcmp, 1)) (ha : zin8 a) (hb : zin8 b) (k : Z rc Y kc ks (pc + 1) L (zI (if b < a then 1 else if a = b then 0 else -1) :: S) h Q) : Z rc Y kc ks pc L (zJ b :: zJ a :: S) h Q := by
  intro p l e R s m args below meth c D A ro ads0 Qm H locs more ls st hc hr hw hl hs
  obtain ⟨st1, rfl, hs1⟩ := zs_J hs
  obtain ⟨st2, rfl, hs2⟩ := zs_J hs1
  refine W.lcmp hc.1 hc.2.1 hd (k hc hr hw hl (zs_push ?_ hs2))
  show some (Value.int (Int32.ofInt _)) = some (Value.int (lg_cmp _ _))
  unfold lg_cmp
  simp only [gt_iff_lt, z_lt8 hb ha, z_eq8 ha hb]
  by_cases h1 : b < a
  · simp only [if_pos h1]; rfl
  · by_cases h2 : a = b
    · simp only [if_neg h1, if_pos h2]; rfl
    · simp only [if_neg h1, if_neg h2]; rfl
theorem z_dup {rc : ZRC} {Y : ZY} {kc ks pc : Nat} {L : ZL} {S : List ZV} {h : ZH} {Q : Option ZV → ZH → Prop} {v : ZV} (hd : decode (zyC Y) pc = .ok (.dup, 1)) (hv : zcat v = 1) (k : Z rc Y kc ks (pc + 1) L (v :: v :: S) h Q) : Z rc Y kc ks pc L (v :: S) h Q := by
  intro p l e R s m args below meth c D A ro ads0 Qm H locs more ls st hc hr hw hl hs
  obtain ⟨w, st1, rfl, h1, hs1⟩ := zs_cons hs
  exact lv_dup hc.1 hc.2.1 hd ((zv_cat h1).trans hv) (k hc hr hw hl (zs_push h1 (zs_push h1 hs1)))
theorem z_dup2 {rc : ZRC} {Y : ZY} {kc ks pc : Nat} {L : ZL} {S : List ZV} {h : ZH} {Q : Option ZV → ZH → Prop} {u v : ZV} (hd : decode (zyC Y) pc = .ok (.dup2, 1)) (hv : zcat v = 1) (hu : zcat u = 1) (k : Z rc Y kc ks (pc + 1) L (v :: u :: v :: u :: S) h Q) : Z rc Y kc ks pc L (v :: u :: S) h Q := by
  intro p l e R s m args below meth c D A ro ads0 Qm H locs more ls st hc hr hw hl hs
  obtain ⟨w, st1, rfl, h1, hs1⟩ := zs_cons hs
  obtain ⟨w2, st2, rfl, h2, hs2⟩ := zs_cons hs1
  exact lv_dup2_11 hc.1 hc.2.1 hd ((zv_cat h1).trans hv) ((zv_cat h2).trans hu) (k hc hr hw hl (zs_push h1 (zs_push h2 (zs_push h1 (zs_push h2 hs2)))))
theorem z_goto {rc : ZRC} {Y : ZY} {kc ks pc : Nat} {L : ZL} {S : List ZV} {h : ZH} {Q : Option ZV → ZH → Prop} {off : Int} {tgt : Nat} (hd : decode (zyC Y) pc = .ok (.goto off, 3)) (ht : (pc : Int) + off = (tgt : Int)) (k : Z rc Y kc ks tgt L S h Q) : Z rc Y kc ks pc L S h Q := by
  intro p l e R s m args below meth c D A ro ads0 Qm H locs more ls st hc hr hw hl hs
  exact lv_goto hc.1 hc.2.1 hd ht (k hc hr hw hl hs)
theorem z_icmp_eq {rc : ZRC} {Y : ZY} {kc ks pc : Nat} {L : ZL} {S : List ZV} {h : ZH} {Q : Option ZV → ZH → Prop} {a b off : Int} {tgt : Nat} (hd : decode (zyC Y) pc = .ok (.if_icmp .eq off, 3)) (ht : (pc : Int) + off = (tgt : Int)) (ha : zin a) (hb : zin b) (t : a = b → Z rc Y kc ks tgt L S h Q) (f : ¬ (a = b) → Z rc Y kc ks (pc + 3) L S h Q) : Z rc Y kc ks pc L (zI b :: zI a :: S) h Q := by
  intro p l e R s m args below meth c D A ro ads0 Qm H locs more ls st hc hr hw hl hs
  obtain ⟨st1, rfl, hs1⟩ := zs_I hs
  obtain ⟨st2, rfl, hs2⟩ := zs_I hs1
  exact lv_icmp_eq hc.1 hc.2.1 hd ht (fun q => t ((z_eq ha hb).mp q) hc hr hw hl hs2) (fun q => f (fun z => q ((z_eq ha hb).mpr z)) hc hr hw hl hs2)
theorem z_if_eq {rc : ZRC} {Y : ZY} {kc ks pc : Nat} {L : ZL} {S : List ZV} {h : ZH} {Q : Option ZV → ZH → Prop} {a off : Int} {tgt : Nat} (hd : decode (zyC Y) pc = .ok (.ifCond .eq off, 3)) (ht : (pc : Int) + off = (tgt : Int)) (ha : zin a) (t : a = 0 → Z rc Y kc ks tgt L S h Q) (f : ¬ (a = 0) → Z rc Y kc ks (pc + 3) L S h Q) : Z rc Y kc ks pc L (zI a :: S) h Q := by
  intro p l e R s m args below meth c D A ro ads0 Qm H locs more ls st hc hr hw hl hs
  obtain ⟨st1, rfl, hs1⟩ := zs_I hs
  exact lv_if_eq hc.1 hc.2.1 hd ht (fun q => t ((z_eq ha zin0).mp q) hc hr hw hl hs1) (fun q => f (fun z => q ((z_eq ha zin0).mpr z)) hc hr hw hl hs1)
theorem z_icmp_ne {rc : ZRC} {Y : ZY} {kc ks pc : Nat} {L : ZL} {S : List ZV} {h : ZH} {Q : Option ZV → ZH → Prop} {a b off : Int} {tgt : Nat} (hd : decode (zyC Y) pc = .ok (.if_icmp .ne off, 3)) (ht : (pc : Int) + off = (tgt : Int)) (ha : zin a) (hb : zin b) (t : ¬ a = b → Z rc Y kc ks tgt L S h Q) (f : a = b → Z rc Y kc ks (pc + 3) L S h Q) : Z rc Y kc ks pc L (zI b :: zI a :: S) h Q := by
  intro p l e R s m args below meth c D A ro ads0 Qm H locs more ls st hc hr hw hl hs
  obtain ⟨st1, rfl, hs1⟩ := zs_I hs
  obtain ⟨st2, rfl, hs2⟩ := zs_I hs1
  exact lv_icmp_ne hc.1 hc.2.1 hd ht (fun q => t (fun z => q ((z_eq ha hb).mpr z)) hc hr hw hl hs2) (fun q => f ((z_eq ha hb).mp q) hc hr hw hl hs2)
theorem z_if_ne {rc : ZRC} {Y : ZY} {kc ks pc : Nat} {L : ZL} {S : List ZV} {h : ZH} {Q : Option ZV → ZH → Prop} {a off : Int} {tgt : Nat} (hd : decode (zyC Y) pc = .ok (.ifCond .ne off, 3)) (ht : (pc : Int) + off = (tgt : Int)) (ha : zin a) (t : ¬ a = 0 → Z rc Y kc ks tgt L S h Q) (f : a = 0 → Z rc Y kc ks (pc + 3) L S h Q) : Z rc Y kc ks pc L (zI a :: S) h Q := by
  intro p l e R s m args below meth c D A ro ads0 Qm H locs more ls st hc hr hw hl hs
  obtain ⟨st1, rfl, hs1⟩ := zs_I hs
  exact lv_if_ne hc.1 hc.2.1 hd ht (fun q => t (fun z => q ((z_eq ha zin0).mpr z)) hc hr hw hl hs1) (fun q => f ((z_eq ha zin0).mp q) hc hr hw hl hs1)
theorem z_icmp_lt {rc : ZRC} {Y : ZY} {kc ks pc : Nat} {L : ZL} {S : List ZV} {h : ZH} {Q : Option ZV → ZH → Prop} {a b off : Int} {tgt : Nat} (hd : decode (zyC Y) pc = .ok (.if_icmp .lt off, 3)) (ht : (pc : Int) + off = (tgt : Int)) (ha : zin a) (hb : zin b) (t : a < b → Z rc Y kc ks tgt L S h Q) (f : ¬ (a < b) → Z rc Y kc ks (pc + 3) L S h Q) : Z rc Y kc ks pc L (zI b :: zI a :: S) h Q := by
  intro p l e R s m args below meth c D A ro ads0 Qm H locs more ls st hc hr hw hl hs
  obtain ⟨st1, rfl, hs1⟩ := zs_I hs
  obtain ⟨st2, rfl, hs2⟩ := zs_I hs1
  exact lv_icmp_lt hc.1 hc.2.1 hd ht (fun q => t ((z_lt ha hb).mp q) hc hr hw hl hs2) (fun q => f (fun z => q ((z_lt ha hb).mpr z)) hc hr hw hl hs2)
theorem z_if_lt {rc : ZRC} {Y : ZY} {kc ks pc : Nat} {L : ZL} {S : List ZV} {h : ZH} {Q : Option ZV → ZH → Prop} {a off : Int} {tgt : Nat} (hd : decode (zyC Y) pc = .ok (.ifCond .lt off, 3)) (ht : (pc : Int) + off = (tgt : Int)) (ha : zin a) (t : a < 0 → Z rc Y kc ks tgt L S h Q) (f : ¬ (a < 0) → Z rc Y kc ks (pc + 3) L S h Q) : Z rc Y kc ks pc L (zI a :: S) h Q := by
  intro p l e R s m args below meth c D A ro ads0 Qm H locs more ls st hc hr hw hl hs
  obtain ⟨st1, rfl, hs1⟩ := zs_I hs
  exact lv_if_lt hc.1 hc.2.1 hd ht (fun q => t ((z_lt ha zin0).mp q) hc hr hw hl hs1) (fun q => f (fun z => q ((z_lt ha zin0).mpr z)) hc hr hw hl hs1)
theorem z_icmp_ge {rc : ZRC} {Y : ZY} {kc ks pc : Nat} {L : ZL} {S : List ZV} {h : ZH} {Q : Option ZV → ZH → Prop} {a b off : Int} {tgt : Nat} (hd : decode (zyC Y) pc = .ok (.if_icmp .ge off, 3)) (ht : (pc : Int) + off = (tgt : Int)) (ha : zin a) (hb : zin b) (t : b ≤ a → Z rc Y kc ks tgt L S h Q) (f : ¬ (b ≤ a) → Z rc Y kc ks (pc + 3) L S h Q) : Z rc Y kc ks pc L (zI b :: zI a :: S) h Q := by
  intro p l e R s m args below meth c D A ro ads0 Qm H locs more ls st hc hr hw hl hs
  obtain ⟨st1, rfl, hs1⟩ := zs_I hs
  obtain ⟨st2, rfl, hs2⟩ := zs_I hs1
  exact lv_icmp_ge hc.1 hc.2.1 hd ht (fun q => t ((z_le hb ha).mp q) hc hr hw hl hs2) (fun q => f (fun z => q ((z_le hb ha).mpr z)) hc hr hw hl hs2)
theorem z_if_ge {rc : ZRC} {Y : ZY} {kc ks pc : Nat} {L : ZL} {S : List ZV} {h : ZH} {Q : Option ZV → ZH → Prop} {a off : Int} {tgt : Nat} (hd : decode (zyC Y) pc = .ok (.ifCond .ge off, 3)) (ht : (pc : Int) + off = (tgt : Int)) (ha : zin a) (t : 0 ≤ a → Z rc Y kc ks tgt L S h Q) (f : ¬ (0 ≤ a) → Z rc Y kc ks (pc + 3) L S h Q) : Z rc Y kc ks pc L (zI a :: S) h Q := by
  intro p l e R s m args below meth c D A ro ads0 Qm H locs more ls st hc hr hw hl hs
  obtain ⟨st1, rfl, hs1⟩ := zs_I hs
  exact lv_if_ge hc.1 hc.2.1 hd ht (fun q => t ((z_le zin0 ha).mp q) hc hr hw hl hs1) (fun q => f (fun z => q ((z_le zin0 ha).mpr z)) hc hr hw hl hs1)
theorem z_icmp_gt {rc : ZRC} {Y : ZY} {kc ks pc : Nat} {L : ZL} {S : List ZV} {h : ZH} {Q : Option ZV → ZH → Prop} {a b off : Int} {tgt : Nat} (hd : decode (zyC Y) pc = .ok (.if_icmp .gt off, 3)) (ht : (pc : Int) + off = (tgt : Int)) (ha : zin a) (hb : zin b) (t : b < a → Z rc Y kc ks tgt L S h Q) (f : ¬ (b < a) → Z rc Y kc ks (pc + 3) L S h Q) : Z rc Y kc ks pc L (zI b :: zI a :: S) h Q := by
  intro p l e R s m args below meth c D A ro ads0 Qm H locs more ls st hc hr hw hl hs
  obtain ⟨st1, rfl, hs1⟩ := zs_I hs
  obtain ⟨st2, rfl, hs2⟩ := zs_I hs1
  exact lv_icmp_gt hc.1 hc.2.1 hd ht (fun q => t ((z_lt hb ha).mp q) hc hr hw hl hs2) (fun q => f (fun z => q ((z_lt hb ha).mpr z)) hc hr hw hl hs2)
theorem z_if_gt {rc : ZRC} {Y : ZY} {kc ks pc : Nat} {L : ZL} {S : List ZV} {h : ZH} {Q : Option ZV → ZH → Prop} {a off : Int} {tgt : Nat} (hd : decode (zyC Y) pc = .ok (.ifCond .gt off, 3)) (ht : (pc : Int) + off = (tgt : Int)) (ha : zin a) (t : 0 < a → Z rc Y kc ks tgt L S h Q) (f : ¬ (0 < a) → Z rc Y kc ks (pc + 3) L S h Q) : Z rc Y kc ks pc L (zI a :: S) h Q := by
  intro p l e R s m args below meth c D A ro ads0 Qm H locs more ls st hc hr hw hl hs
  obtain ⟨st1, rfl, hs1⟩ := zs_I hs
  exact lv_if_gt hc.1 hc.2.1 hd ht (fun q => t ((z_lt zin0 ha).mp q) hc hr hw hl hs1) (fun q => f (fun z => q ((z_lt zin0 ha).mpr z)) hc hr hw hl hs1)
theorem z_icmp_le {rc : ZRC} {Y : ZY} {kc ks pc : Nat} {L : ZL} {S : List ZV} {h : ZH} {Q : Option ZV → ZH → Prop} {a b off : Int} {tgt : Nat} (hd : decode (zyC Y) pc = .ok (.if_icmp .le off, 3)) (ht : (pc : Int) + off = (tgt : Int)) (ha : zin a) (hb : zin b) (t : a ≤ b → Z rc Y kc ks tgt L S h Q) (f : ¬ (a ≤ b) → Z rc Y kc ks (pc + 3) L S h Q) : Z rc Y kc ks pc L (zI b :: zI a :: S) h Q := by
  intro p l e R s m args below meth c D A ro ads0 Qm H locs more ls st hc hr hw hl hs
  obtain ⟨st1, rfl, hs1⟩ := zs_I hs
  obtain ⟨st2, rfl, hs2⟩ := zs_I hs1
  exact lv_icmp_le hc.1 hc.2.1 hd ht (fun q => t ((z_le ha hb).mp q) hc hr hw hl hs2) (fun q => f (fun z => q ((z_le ha hb).mpr z)) hc hr hw hl hs2)
theorem z_if_le {rc : ZRC} {Y : ZY} {kc ks pc : Nat} {L : ZL} {S : List ZV} {h : ZH} {Q : Option ZV → ZH → Prop} {a off : Int} {tgt : Nat} (hd : decode (zyC Y) pc = .ok (.ifCond .le off, 3)) (ht : (pc : Int) + off = (tgt : Int)) (ha : zin a) (t : a ≤ 0 → Z rc Y kc ks tgt L S h Q) (f : ¬ (a ≤ 0) → Z rc Y kc ks (pc + 3) L S h Q) : Z rc Y kc ks pc L (zI a :: S) h Q := by
  intro p l e R s m args below meth c D A ro ads0 Qm H locs more ls st hc hr hw hl hs
  obtain ⟨st1, rfl, hs1⟩ := zs_I hs
  exact lv_if_le hc.1 hc.2.1 hd ht (fun q => t ((z_le ha zin0).mp q) hc hr hw hl hs1) (fun q => f (fun z => q ((z_le ha zin0).mpr z)) hc hr hw hl hs1)
theorem z_tswIn {rc : ZRC} {Y : ZY} {kc ks pc : Nat} {L : ZL} {S : List ZV} {h : ZH} {Q : Option ZV → ZH → Prop} {dflt lo hi off z : Int} {offs : Array Int} {len tgt : Nat} (hd : decode (zyC Y) pc = .ok (.tableswitch dflt lo hi offs, len)) (hz : zin z) (h1 : lo ≤ z) (h2 : z ≤ hi) (ho : offs[(z - lo).toNat]? = some off) (ht : (pc : Int) + off = (tgt : Int)) (k : Z rc Y kc ks tgt L S h Q) : Z rc Y kc ks pc L (zI z :: S) h Q := by
  intro p l e R s m args below meth c D A ro ads0 Qm H locs more ls st hc hr hw hl hs
  obtain ⟨st1, rfl, hs1⟩ := zs_I hs
  exact lv_tableIn hc.1 hc.2.1 hd (by rw [zin_toInt hz]; omega) (by rw [zin_toInt hz]; omega) (by rw [zin_toInt hz]; exact ho) ht (k hc hr hw hl hs1)
theorem z_tswOut {rc : ZRC} {Y : ZY} {kc ks pc : Nat} {L : ZL} {S : List ZV} {h : ZH} {Q : Option ZV → ZH → Prop} {dflt lo hi z : Int} {offs : Array Int} {len tgt : Nat} (hd : decode (zyC Y) pc = .ok (.tableswitch dflt lo hi offs, len)) (hz : zin z) (h1 : z < lo ∨ hi < z) (ht : (pc : Int) + dflt = (tgt : Int)) (k : Z rc Y kc ks tgt L S h Q) : Z rc Y kc ks pc L (zI z :: S) h Q := by
  intro p l e R s m args below meth c D A ro ads0 Qm H locs more ls st hc hr hw hl hs
  obtain ⟨st1, rfl, hs1⟩ := zs_I hs
  exact lv_tableOut hc.1 hc.2.1 hd (by rw [zin_toInt hz]; exact h1) ht (k hc hr hw hl hs1)
theorem z_lsw {rc : ZRC} {Y : ZY} {kc ks pc : Nat} {L : ZL} {S : List ZV} {h : ZH} {Q : Option ZV → ZH → Prop} {dflt off z : Int} {ps : Array (Int × Int)} {len tgt : Nat} (hd : decode (zyC Y) pc = .ok (.lookupswitch dflt ps, len)) (hz : zin z) (hp : (ps.toList.zip (ps.toList.drop 1)).all (fun (a, next) => a.1 < next.1) = true) (ho : Op.lookupswitch.offset ps.toList dflt z = off) (ht : (pc : Int) + off = (tgt : Int)) (k : Z rc Y kc ks tgt L S h Q) : Z rc Y kc ks pc L (zI z :: S) h Q := by
  intro p l e R s m args below meth c D A ro ads0 Qm H locs more ls st hc hr hw hl hs
  obtain ⟨st1, rfl, hs1⟩ := zs_I hs
  exact lv_lookup hc.1 hc.2.1 hd hp (by rw [zin_toInt hz]; exact ho) ht (k hc hr hw hl hs1)
theorem z_iret0 {rc : ZRC} {Y : ZY} {kc ks pc : Nat} {L : ZL} {S : List ZV} {h : ZH} {Q : Option ZV → ZH → Prop} {z : Int} (hd : decode (zyC Y) pc = .ok (.ireturn, 1)) (hY : zyR Y = some .int ∨ (zyR Y = some .boolean ∧ (z = 0 ∨ z = 1))) (hkc : kc = zyMc Y) (hks : ks = zyMs Y) (hq : Q (some (zI z)) h) : Z rc Y kc ks pc L [zI z] h Q := by
  intro p l e R s m args below meth c D A ro ads0 Qm H locs more ls st hc hr hw hl hs
  subst hkc; subst hks
  exact hr pc H locs more ls st (some (zI z)) h hq hw hs (Or.inr (Or.inl ⟨z, rfl, hd, hY⟩))
theorem z_vret {rc : ZRC} {Y : ZY} {kc ks pc : Nat} {L : ZL} {S : List ZV} {h : ZH} {Q : Option ZV → ZH → Prop} (hd : decode (zyC Y) pc = .ok (.return_, 1)) (hY : zyR Y = none) (hkc : kc = zyMc Y) (hks : ks = zyMs Y) (hq : Q none h) : Z rc Y kc ks pc L [] h Q := by
  intro p l e R s m args below meth c D A ro ads0 Qm H locs more ls st hc hr hw hl hs
  subst hkc; subst hks
  exact hr pc H locs more ls st none h hq hw hs (Or.inl ⟨hY, rfl, hd⟩)
theorem z_aret {rc : ZRC} {Y : ZY} {kc ks pc : Nat} {L : ZL} {S : List ZV} {h : ZH} {Q : Option ZV → ZH → Prop} {o : Nat} {n : String} (hd : decode (zyC Y) pc = .ok (.areturn, 1)) (hY : zyR Y = some (.object n)) (hkc : kc = zyMc Y) (hks : ks = zyMs Y) (hq : Q (some (zR o)) h) : Z rc Y kc ks pc L [zR o] h Q := by
  intro p l e R s m args below meth c D A ro ads0 Qm H locs more ls st hc hr hw hl hs
  subst hkc; subst hks
  exact hr pc H locs more ls st (some (zR o)) h hq hw hs (Or.inr (Or.inr ⟨o, rfl, hd, n, hY⟩))
