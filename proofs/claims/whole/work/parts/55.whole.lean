/-! THE CLAIM OUT OF ONE WALK OF THE LAW'S BODY. Your part is whole_start (and what it stands on); all else here is the same for every law, but numbers. -/
def R_law : String := "PierYearsLaw"
def lw_P (b : Addr) (xs : List Int32) (args : Array Value) (s : State) : Prop := args = #[.ref b] ∧ s.IntsAt b xs ∧ xs.length ≤ 384 ∧ (Jvm.Cond.and given_1 narrow_1).before args s = true
def lw_Q (_ : Array Value) (s : State) (o : Outcome) (t : State) : Prop := o = .returned (some (.int 1)) ∧ Framed s o t [] 55 2397
def lw_Z (below : List Frame) (a : Array Value) (s : State) : State → Prop := fun t => ∃ o, t.status = .running ∧ Ended t below o ∧ lw_Q a s o t
/-- the law's own end, with 1 on the stack, nothing written that was there before, its room as the claim has it -/
theorem lw_ret {p : Program} {l : Launch} {e : Env} {s : State} {m : MethodId} {below : List Frame} {meth : Method} {c : Code} {b : Nat} (hx : p.tables.exec = Jvm.exec) (hb : c.code = code) (hr : meth.sig.returnType = ret) (hlocks : meth.locks = false) {pc : Nat} {H : Heap} {ls : Array Slot} (hdg : decode code pc = .ok (.ireturn, 1)) : W p l e room_1 s m #[Value.ref b] below meth c H [] 55 2397 (lw_Z below #[Value.ref b] s) (F0 m pc ls [.int 1]) := by
  intro T hT X
  obtain ⟨fs, hret, hrun, hended, hW, hframe⟩ := X.leave (v := some (.int 1)) (hlocks := hlocks) (fun h => by rw [hr] at h; cases h)
  have hmeth' : T.vm.method? m = some meth := X.method'
  refine ⟨T.setFrames fs, ?_, .returned (some (.int 1)), hrun, hended, rfl, ⟨_, rfl⟩, hW, hframe⟩
  jvm_step X.here [X.here.top, hx, hb, hdg, hmeth', hr, ret, narrow_b1]
  (try refine ⟨rfl, ?_⟩); (try refine ⟨rfl, ?_⟩)
  first | (intro acts; rw [hret _ acts rfl rfl rfl]) | rw [hret _ _ rfl rfl rfl]
  exact Steps.refl _
/-- what holds at the law's entry: the machine, the code, the tables' words (any of lw_tbl by 'hts w (by decide +kernel)'), the script of L ints xs at the cell b, what the Statement gives of the start (any of its parts by flat_of_before) -/
def lw_At (p : Program) (s : State) (m : MethodId) (meth : Method) (c : Code) (b L : Nat) (xs : Nat → Int32) : Prop :=
  p.tables.exec = Jvm.exec ∧ c.code = code ∧ meth.sig.returnType = ret ∧ c.maxLocals = 4 ∧ s.vm.findClass R_law = some m.cls ∧ (∀ w ∈ lw_tbl, w.before #[Value.ref b] s = true) ∧ va_X b L xs s s.heap ∧ b < s.heap.size ∧ meth.locks = false ∧ (Jvm.Cond.and given_1 narrow_1).before #[Value.ref b] s = true
/-- the static tables, at the start -/
def zRf (b t0 t1 t2 t3 t4 t5 : Nat) : Nat → Nat := fun j => if j = 0 then t0 else if j = 1 then t1 else if j = 2 then t2 else if j = 3 then t3 else if j = 4 then t4 else if j = 5 then t5 else b
def zRC (L : Nat) (f : Nat → Int) : ZRC := fun j => if j = 0 then some (4, fLo) else if j = 1 then some (4, fHi) else if j = 2 then some (5, loL) else if j = 3 then some (5, hiL) else if j = 4 then some (3, loP) else if j = 5 then some (3, hiP) else if j = 6 then some (L, f) else none
theorem tab_0 {args : Array Value} {s : State} {A : Nat → Prop} (hgv : (Jvm.Cond.and given_1 narrow_1).before args s = true) (hts : ∀ w ∈ lw_tbl, w.before args s = true) (hA : ∀ a : Nat, a < s.heap.size → ¬ A a) : ∃ t : Nat, va_T .int t 4 (fun i => .int (Int32.ofInt (fLo i))) A s s.heap ∧ va_Z "PierYears" "LEAST_FIT" "[I" (.ref t) A s s.heap := by
  have hs := flat_of_before _ hgv
  obtain ⟨t, h1, h2⟩ := va_Tof (args := args) (s := s) (tm := (.static "PierYears" "LEAST_FIT" "[I")) (ty := .int) (N := 4) (f := fun i => .int (Int32.ofInt (fLo i))) (A := A) (by decide) (hs (.arrayOf (.static "PierYears" "LEAST_FIT" "[I") .int) (by decide +kernel)) (va_eqt (z := 4) (hs (.eq (.length (.static "PierYears" "LEAST_FIT" "[I")) (.int 4)) (by decide +kernel))) (fun j hj => by
    have e : j = 0 ∨ j = 1 ∨ j = 2 ∨ j = 3 := by omega
    rcases e with rfl | rfl | rfl | rfl
    · exact (va_eqt (z := 0) (hs (.eq (.elem (.static "PierYears" "LEAST_FIT" "[I") (.int 0)) (.int 0)) (by decide +kernel))).trans (congrArg (fun z => some (Value.int z)) (by decide : (0 : Int32) = Int32.ofInt (fLo 0)))
    · exact (va_eqt (z := 0) (hs (.eq (.elem (.static "PierYears" "LEAST_FIT" "[I") (.int 1)) (.int 0)) (by decide +kernel))).trans (congrArg (fun z => some (Value.int z)) (by decide : (0 : Int32) = Int32.ofInt (fLo 1)))
    · exact (va_eqt (z := 1) (hs (.eq (.elem (.static "PierYears" "LEAST_FIT" "[I") (.int 2)) (.int 1)) (by decide +kernel))).trans (congrArg (fun z => some (Value.int z)) (by decide : (1 : Int32) = Int32.ofInt (fLo 2)))
    · exact (va_eqt (z := 0) (hs (.eq (.elem (.static "PierYears" "LEAST_FIT" "[I") (.int 3)) (.int 0)) (by decide +kernel))).trans (congrArg (fun z => some (Value.int z)) (by decide : (0 : Int32) = Int32.ofInt (fLo 3)))) hA
  exact ⟨t, h2, va_Zref (hts _ (List.mem_of_getElem? (i := 657) (show lw_tbl[657]? = some (Cond.laysStatic "PierYears" "LEAST_FIT" "[I") by decide +kernel))) (hts _ (List.mem_of_getElem? (i := 54) (show lw_tbl[54]? = some (Cond.initialized "PierYears") by decide +kernel))) h1 hA⟩
theorem tab_1 {args : Array Value} {s : State} {A : Nat → Prop} (hgv : (Jvm.Cond.and given_1 narrow_1).before args s = true) (hts : ∀ w ∈ lw_tbl, w.before args s = true) (hA : ∀ a : Nat, a < s.heap.size → ¬ A a) : ∃ t : Nat, va_T .int t 4 (fun i => .int (Int32.ofInt (fHi i))) A s s.heap ∧ va_Z "PierYears" "MOST_FIT" "[I" (.ref t) A s s.heap := by
  have hs := flat_of_before _ hgv
  obtain ⟨t, h1, h2⟩ := va_Tof (args := args) (s := s) (tm := (.static "PierYears" "MOST_FIT" "[I")) (ty := .int) (N := 4) (f := fun i => .int (Int32.ofInt (fHi i))) (A := A) (by decide) (hs (.arrayOf (.static "PierYears" "MOST_FIT" "[I") .int) (by decide +kernel)) (va_eqt (z := 4) (hs (.eq (.length (.static "PierYears" "MOST_FIT" "[I")) (.int 4)) (by decide +kernel))) (fun j hj => by
    have e : j = 0 ∨ j = 1 ∨ j = 2 ∨ j = 3 := by omega
    rcases e with rfl | rfl | rfl | rfl
    · exact (va_eqt (z := 9) (hs (.eq (.elem (.static "PierYears" "MOST_FIT" "[I") (.int 0)) (.int 9)) (by decide +kernel))).trans (congrArg (fun z => some (Value.int z)) (by decide : (9 : Int32) = Int32.ofInt (fHi 0)))
    · exact (va_eqt (z := 2) (hs (.eq (.elem (.static "PierYears" "MOST_FIT" "[I") (.int 1)) (.int 2)) (by decide +kernel))).trans (congrArg (fun z => some (Value.int z)) (by decide : (2 : Int32) = Int32.ofInt (fHi 1)))
    · exact (va_eqt (z := 5) (hs (.eq (.elem (.static "PierYears" "MOST_FIT" "[I") (.int 2)) (.int 5)) (by decide +kernel))).trans (congrArg (fun z => some (Value.int z)) (by decide : (5 : Int32) = Int32.ofInt (fHi 2)))
    · exact (va_eqt (z := 29) (hs (.eq (.elem (.static "PierYears" "MOST_FIT" "[I") (.int 3)) (.int 29)) (by decide +kernel))).trans (congrArg (fun z => some (Value.int z)) (by decide : (29 : Int32) = Int32.ofInt (fHi 3)))) hA
  exact ⟨t, h2, va_Zref (hts _ (List.mem_of_getElem? (i := 659) (show lw_tbl[659]? = some (Cond.laysStatic "PierYears" "MOST_FIT" "[I") by decide +kernel))) (hts _ (List.mem_of_getElem? (i := 54) (show lw_tbl[54]? = some (Cond.initialized "PierYears") by decide +kernel))) h1 hA⟩
theorem tab_2 {args : Array Value} {s : State} {A : Nat → Prop} (hgv : (Jvm.Cond.and given_1 narrow_1).before args s = true) (hts : ∀ w ∈ lw_tbl, w.before args s = true) (hA : ∀ a : Nat, a < s.heap.size → ¬ A a) : ∃ t : Nat, va_T .int t 5 (fun i => .int (Int32.ofInt (loL i))) A s s.heap ∧ va_Z "PierYears$Tape" "LEAST_OF_LAW" "[I" (.ref t) A s s.heap := by
  have hs := flat_of_before _ hgv
  obtain ⟨t, h1, h2⟩ := va_Tof (args := args) (s := s) (tm := (.static "PierYears$Tape" "LEAST_OF_LAW" "[I")) (ty := .int) (N := 5) (f := fun i => .int (Int32.ofInt (loL i))) (A := A) (by decide) (hs (.arrayOf (.static "PierYears$Tape" "LEAST_OF_LAW" "[I") .int) (by decide +kernel)) (va_eqt (z := 5) (hs (.eq (.length (.static "PierYears$Tape" "LEAST_OF_LAW" "[I")) (.int 5)) (by decide +kernel))) (fun j hj => by
    have e : j = 0 ∨ j = 1 ∨ j = 2 ∨ j = 3 ∨ j = 4 := by omega
    rcases e with rfl | rfl | rfl | rfl | rfl
    · exact (va_eqt (z := 0) (hs (.eq (.elem (.static "PierYears$Tape" "LEAST_OF_LAW" "[I") (.int 0)) (.int 0)) (by decide +kernel))).trans (congrArg (fun z => some (Value.int z)) (by decide : (0 : Int32) = Int32.ofInt (loL 0)))
    · exact (va_eqt (z := 0) (hs (.eq (.elem (.static "PierYears$Tape" "LEAST_OF_LAW" "[I") (.int 1)) (.int 0)) (by decide +kernel))).trans (congrArg (fun z => some (Value.int z)) (by decide : (0 : Int32) = Int32.ofInt (loL 1)))
    · exact (va_eqt (z := 1) (hs (.eq (.elem (.static "PierYears$Tape" "LEAST_OF_LAW" "[I") (.int 2)) (.int 1)) (by decide +kernel))).trans (congrArg (fun z => some (Value.int z)) (by decide : (1 : Int32) = Int32.ofInt (loL 2)))
    · exact (va_eqt (z := 0) (hs (.eq (.elem (.static "PierYears$Tape" "LEAST_OF_LAW" "[I") (.int 3)) (.int 0)) (by decide +kernel))).trans (congrArg (fun z => some (Value.int z)) (by decide : (0 : Int32) = Int32.ofInt (loL 3)))
    · exact (va_eqt (z := 0) (hs (.eq (.elem (.static "PierYears$Tape" "LEAST_OF_LAW" "[I") (.int 4)) (.int 0)) (by decide +kernel))).trans (congrArg (fun z => some (Value.int z)) (by decide : (0 : Int32) = Int32.ofInt (loL 4)))) hA
  exact ⟨t, h2, va_Zref (hts _ (List.mem_of_getElem? (i := 412) (show lw_tbl[412]? = some (Cond.laysStatic "PierYears$Tape" "LEAST_OF_LAW" "[I") by decide +kernel))) (hts _ (List.mem_of_getElem? (i := 56) (show lw_tbl[56]? = some (Cond.initialized "PierYears$Tape") by decide +kernel))) h1 hA⟩
theorem tab_3 {args : Array Value} {s : State} {A : Nat → Prop} (hgv : (Jvm.Cond.and given_1 narrow_1).before args s = true) (hts : ∀ w ∈ lw_tbl, w.before args s = true) (hA : ∀ a : Nat, a < s.heap.size → ¬ A a) : ∃ t : Nat, va_T .int t 5 (fun i => .int (Int32.ofInt (hiL i))) A s s.heap ∧ va_Z "PierYears$Tape" "MOST_OF_LAW" "[I" (.ref t) A s s.heap := by
  have hs := flat_of_before _ hgv
  obtain ⟨t, h1, h2⟩ := va_Tof (args := args) (s := s) (tm := (.static "PierYears$Tape" "MOST_OF_LAW" "[I")) (ty := .int) (N := 5) (f := fun i => .int (Int32.ofInt (hiL i))) (A := A) (by decide) (hs (.arrayOf (.static "PierYears$Tape" "MOST_OF_LAW" "[I") .int) (by decide +kernel)) (va_eqt (z := 5) (hs (.eq (.length (.static "PierYears$Tape" "MOST_OF_LAW" "[I")) (.int 5)) (by decide +kernel))) (fun j hj => by
    have e : j = 0 ∨ j = 1 ∨ j = 2 ∨ j = 3 ∨ j = 4 := by omega
    rcases e with rfl | rfl | rfl | rfl | rfl
    · exact (va_eqt (z := 9) (hs (.eq (.elem (.static "PierYears$Tape" "MOST_OF_LAW" "[I") (.int 0)) (.int 9)) (by decide +kernel))).trans (congrArg (fun z => some (Value.int z)) (by decide : (9 : Int32) = Int32.ofInt (hiL 0)))
    · exact (va_eqt (z := 9) (hs (.eq (.elem (.static "PierYears$Tape" "MOST_OF_LAW" "[I") (.int 1)) (.int 9)) (by decide +kernel))).trans (congrArg (fun z => some (Value.int z)) (by decide : (9 : Int32) = Int32.ofInt (hiL 1)))
    · exact (va_eqt (z := 30) (hs (.eq (.elem (.static "PierYears$Tape" "MOST_OF_LAW" "[I") (.int 2)) (.int 30)) (by decide +kernel))).trans (congrArg (fun z => some (Value.int z)) (by decide : (30 : Int32) = Int32.ofInt (hiL 2)))
    · exact (va_eqt (z := 9) (hs (.eq (.elem (.static "PierYears$Tape" "MOST_OF_LAW" "[I") (.int 3)) (.int 9)) (by decide +kernel))).trans (congrArg (fun z => some (Value.int z)) (by decide : (9 : Int32) = Int32.ofInt (hiL 3)))
    · exact (va_eqt (z := 9) (hs (.eq (.elem (.static "PierYears$Tape" "MOST_OF_LAW" "[I") (.int 4)) (.int 9)) (by decide +kernel))).trans (congrArg (fun z => some (Value.int z)) (by decide : (9 : Int32) = Int32.ofInt (hiL 4)))) hA
  exact ⟨t, h2, va_Zref (hts _ (List.mem_of_getElem? (i := 414) (show lw_tbl[414]? = some (Cond.laysStatic "PierYears$Tape" "MOST_OF_LAW" "[I") by decide +kernel))) (hts _ (List.mem_of_getElem? (i := 56) (show lw_tbl[56]? = some (Cond.initialized "PierYears$Tape") by decide +kernel))) h1 hA⟩
theorem tab_4 {args : Array Value} {s : State} {A : Nat → Prop} (hgv : (Jvm.Cond.and given_1 narrow_1).before args s = true) (hts : ∀ w ∈ lw_tbl, w.before args s = true) (hA : ∀ a : Nat, a < s.heap.size → ¬ A a) : ∃ t : Nat, va_T .int t 3 (fun i => .int (Int32.ofInt (loP i))) A s s.heap ∧ va_Z "PierYears$Tape" "LEAST_OF_PIER" "[I" (.ref t) A s s.heap := by
  have hs := flat_of_before _ hgv
  obtain ⟨t, h1, h2⟩ := va_Tof (args := args) (s := s) (tm := (.static "PierYears$Tape" "LEAST_OF_PIER" "[I")) (ty := .int) (N := 3) (f := fun i => .int (Int32.ofInt (loP i))) (A := A) (by decide) (hs (.arrayOf (.static "PierYears$Tape" "LEAST_OF_PIER" "[I") .int) (by decide +kernel)) (va_eqt (z := 3) (hs (.eq (.length (.static "PierYears$Tape" "LEAST_OF_PIER" "[I")) (.int 3)) (by decide +kernel))) (fun j hj => by
    have e : j = 0 ∨ j = 1 ∨ j = 2 := by omega
    rcases e with rfl | rfl | rfl
    · exact (va_eqt (z := 0) (hs (.eq (.elem (.static "PierYears$Tape" "LEAST_OF_PIER" "[I") (.int 0)) (.int 0)) (by decide +kernel))).trans (congrArg (fun z => some (Value.int z)) (by decide : (0 : Int32) = Int32.ofInt (loP 0)))
    · exact (va_eqt (z := 0) (hs (.eq (.elem (.static "PierYears$Tape" "LEAST_OF_PIER" "[I") (.int 1)) (.int 0)) (by decide +kernel))).trans (congrArg (fun z => some (Value.int z)) (by decide : (0 : Int32) = Int32.ofInt (loP 1)))
    · exact (va_eqt (z := 0) (hs (.eq (.elem (.static "PierYears$Tape" "LEAST_OF_PIER" "[I") (.int 2)) (.int 0)) (by decide +kernel))).trans (congrArg (fun z => some (Value.int z)) (by decide : (0 : Int32) = Int32.ofInt (loP 2)))) hA
  exact ⟨t, h2, va_Zref (hts _ (List.mem_of_getElem? (i := 438) (show lw_tbl[438]? = some (Cond.laysStatic "PierYears$Tape" "LEAST_OF_PIER" "[I") by decide +kernel))) (hts _ (List.mem_of_getElem? (i := 56) (show lw_tbl[56]? = some (Cond.initialized "PierYears$Tape") by decide +kernel))) h1 hA⟩
theorem tab_5 {args : Array Value} {s : State} {A : Nat → Prop} (hgv : (Jvm.Cond.and given_1 narrow_1).before args s = true) (hts : ∀ w ∈ lw_tbl, w.before args s = true) (hA : ∀ a : Nat, a < s.heap.size → ¬ A a) : ∃ t : Nat, va_T .int t 3 (fun i => .int (Int32.ofInt (hiP i))) A s s.heap ∧ va_Z "PierYears$Tape" "MOST_OF_PIER" "[I" (.ref t) A s s.heap := by
  have hs := flat_of_before _ hgv
  obtain ⟨t, h1, h2⟩ := va_Tof (args := args) (s := s) (tm := (.static "PierYears$Tape" "MOST_OF_PIER" "[I")) (ty := .int) (N := 3) (f := fun i => .int (Int32.ofInt (hiP i))) (A := A) (by decide) (hs (.arrayOf (.static "PierYears$Tape" "MOST_OF_PIER" "[I") .int) (by decide +kernel)) (va_eqt (z := 3) (hs (.eq (.length (.static "PierYears$Tape" "MOST_OF_PIER" "[I")) (.int 3)) (by decide +kernel))) (fun j hj => by
    have e : j = 0 ∨ j = 1 ∨ j = 2 := by omega
    rcases e with rfl | rfl | rfl
    · exact (va_eqt (z := 9) (hs (.eq (.elem (.static "PierYears$Tape" "MOST_OF_PIER" "[I") (.int 0)) (.int 9)) (by decide +kernel))).trans (congrArg (fun z => some (Value.int z)) (by decide : (9 : Int32) = Int32.ofInt (hiP 0)))
    · exact (va_eqt (z := 2) (hs (.eq (.elem (.static "PierYears$Tape" "MOST_OF_PIER" "[I") (.int 1)) (.int 2)) (by decide +kernel))).trans (congrArg (fun z => some (Value.int z)) (by decide : (2 : Int32) = Int32.ofInt (hiP 1)))
    · exact (va_eqt (z := 9) (hs (.eq (.elem (.static "PierYears$Tape" "MOST_OF_PIER" "[I") (.int 2)) (.int 9)) (by decide +kernel))).trans (congrArg (fun z => some (Value.int z)) (by decide : (9 : Int32) = Int32.ofInt (hiP 2)))) hA
  exact ⟨t, h2, va_Zref (hts _ (List.mem_of_getElem? (i := 440) (show lw_tbl[440]? = some (Cond.laysStatic "PierYears$Tape" "MOST_OF_PIER" "[I") by decide +kernel))) (hts _ (List.mem_of_getElem? (i := 56) (show lw_tbl[56]? = some (Cond.initialized "PierYears$Tape") by decide +kernel))) h1 hA⟩
theorem tab_ml : ∀ q ∈ zml, Cond.methodLinkNest q.1 q.2.1 q.2.2 "PierYears" ∈ lw_tbl := by
  unfold zml
  refine List.forall_mem_cons.mpr ⟨List.mem_of_getElem? (i := 79) (by decide +kernel), ?_⟩
  refine List.forall_mem_cons.mpr ⟨List.mem_of_getElem? (i := 96) (by decide +kernel), ?_⟩
  refine List.forall_mem_cons.mpr ⟨List.mem_of_getElem? (i := 118) (by decide +kernel), ?_⟩
  refine List.forall_mem_cons.mpr ⟨List.mem_of_getElem? (i := 179) (by decide +kernel), ?_⟩
  refine List.forall_mem_cons.mpr ⟨List.mem_of_getElem? (i := 195) (by decide +kernel), ?_⟩
  refine List.forall_mem_cons.mpr ⟨List.mem_of_getElem? (i := 220) (by decide +kernel), ?_⟩
  refine List.forall_mem_cons.mpr ⟨List.mem_of_getElem? (i := 223) (by decide +kernel), ?_⟩
  refine List.forall_mem_cons.mpr ⟨List.mem_of_getElem? (i := 230) (by decide +kernel), ?_⟩
  refine List.forall_mem_cons.mpr ⟨List.mem_of_getElem? (i := 233) (by decide +kernel), ?_⟩
  refine List.forall_mem_cons.mpr ⟨List.mem_of_getElem? (i := 237) (by decide +kernel), ?_⟩
  refine List.forall_mem_cons.mpr ⟨List.mem_of_getElem? (i := 240) (by decide +kernel), ?_⟩
  refine List.forall_mem_cons.mpr ⟨List.mem_of_getElem? (i := 244) (by decide +kernel), ?_⟩
  refine List.forall_mem_cons.mpr ⟨List.mem_of_getElem? (i := 247) (by decide +kernel), ?_⟩
  refine List.forall_mem_cons.mpr ⟨List.mem_of_getElem? (i := 251) (by decide +kernel), ?_⟩
  refine List.forall_mem_cons.mpr ⟨List.mem_of_getElem? (i := 254) (by decide +kernel), ?_⟩
  exact fun _ h => absurd h List.not_mem_nil
theorem tab_cs : ∀ q ∈ zcs, Cond.castable q.1 q.2 ∈ lw_tbl := by
  unfold zcs
  refine List.forall_mem_cons.mpr ⟨List.mem_of_getElem? (i := 1202) (by decide +kernel), ?_⟩
  refine List.forall_mem_cons.mpr ⟨List.mem_of_getElem? (i := 1203) (by decide +kernel), ?_⟩
  refine List.forall_mem_cons.mpr ⟨List.mem_of_getElem? (i := 1204) (by decide +kernel), ?_⟩
  refine List.forall_mem_cons.mpr ⟨List.mem_of_getElem? (i := 1205) (by decide +kernel), ?_⟩
  refine List.forall_mem_cons.mpr ⟨List.mem_of_getElem? (i := 1206) (by decide +kernel), ?_⟩
  refine List.forall_mem_cons.mpr ⟨List.mem_of_getElem? (i := 1207) (by decide +kernel), ?_⟩
  refine List.forall_mem_cons.mpr ⟨List.mem_of_getElem? (i := 1208) (by decide +kernel), ?_⟩
  refine List.forall_mem_cons.mpr ⟨List.mem_of_getElem? (i := 1209) (by decide +kernel), ?_⟩
  exact fun _ h => absurd h List.not_mem_nil
theorem tab_nc : ∀ q ∈ znc, Cond.not (Cond.castable q.1 q.2) ∈ flatC (Jvm.Cond.and given_1 narrow_1) := by
  unfold znc
  refine List.forall_mem_cons.mpr ⟨by decide +kernel, ?_⟩
  refine List.forall_mem_cons.mpr ⟨by decide +kernel, ?_⟩
  refine List.forall_mem_cons.mpr ⟨by decide +kernel, ?_⟩
  refine List.forall_mem_cons.mpr ⟨by decide +kernel, ?_⟩
  refine List.forall_mem_cons.mpr ⟨by decide +kernel, ?_⟩
  refine List.forall_mem_cons.mpr ⟨by decide +kernel, ?_⟩
  refine List.forall_mem_cons.mpr ⟨by decide +kernel, ?_⟩
  refine List.forall_mem_cons.mpr ⟨by decide +kernel, ?_⟩
  refine List.forall_mem_cons.mpr ⟨by decide +kernel, ?_⟩
  refine List.forall_mem_cons.mpr ⟨by decide +kernel, ?_⟩
  refine List.forall_mem_cons.mpr ⟨by decide +kernel, ?_⟩
  refine List.forall_mem_cons.mpr ⟨by decide +kernel, ?_⟩
  refine List.forall_mem_cons.mpr ⟨by decide +kernel, ?_⟩
  refine List.forall_mem_cons.mpr ⟨by decide +kernel, ?_⟩
  refine List.forall_mem_cons.mpr ⟨by decide +kernel, ?_⟩
  refine List.forall_mem_cons.mpr ⟨by decide +kernel, ?_⟩
  refine List.forall_mem_cons.mpr ⟨by decide +kernel, ?_⟩
  exact fun _ h => absurd h List.not_mem_nil
theorem whole_start {p : Program} {e : Env} {s : State} {m : MethodId} {below : List Frame} {meth : Method} {c : Code} (l : Launch) {b L : Nat} {xs : Nat → Int32} (hL : L ≤ 384) (C0 : lw_At p s m meth c b L xs) : W p l e room_1 s m #[Value.ref b] below meth c s.heap [] 0 0 (lw_Z below #[Value.ref b] s) (entryFrame m ([Value.ref b] : List Value).toArray 4) := by
  obtain ⟨hx, hb, hr, hml, hown, hts, hX, hbl, hlocks, hgv⟩ := C0
  have hA : ∀ a : Nat, a < s.heap.size → ¬ (fun q : Nat => s.heap.size ≤ q) a := fun a h => Nat.not_le.mpr h
  obtain ⟨t0, T0, Z0⟩ := tab_0 (A := fun q : Nat => s.heap.size ≤ q) hgv hts hA
  obtain ⟨t1, T1, Z1⟩ := tab_1 (A := fun q : Nat => s.heap.size ≤ q) hgv hts hA
  obtain ⟨t2, T2, Z2⟩ := tab_2 (A := fun q : Nat => s.heap.size ≤ q) hgv hts hA
  obtain ⟨t3, T3, Z3⟩ := tab_3 (A := fun q : Nat => s.heap.size ≤ q) hgv hts hA
  obtain ⟨t4, T4, Z4⟩ := tab_4 (A := fun q : Nat => s.heap.size ≤ q) hgv hts hA
  obtain ⟨t5, T5, Z5⟩ := tab_5 (A := fun q : Nat => s.heap.size ≤ q) hgv hts hA
  have hz : ∀ w ∈ zTB, w.before #[Value.ref b] s = true := fun w h => hts w (List.mem_filter.mp h).1
  obtain ⟨c0, i0, K0⟩ := u_known (C := RX0) (T := TX0) (N := 5) (n := 5) hz uw_X0 (hz _ zw_141)
  obtain ⟨c1, i1, K1⟩ := u_known (C := RX1) (T := TX1) (N := 0) (n := 0) hz uw_X1 (hz _ zw_176)
  obtain ⟨c2, i2, K2⟩ := u_known (C := RX2) (T := TX2) (N := 13) (n := 13) hz uw_X2 (hz _ zw_64)
  obtain ⟨c3, i3, K3⟩ := u_known (C := RX3) (T := TX3) (N := 0) (n := 0) hz uw_X3 (hz _ zw_166)
  obtain ⟨c4, i4, K4⟩ := u_known (C := RX4) (T := TX4) (N := 3) (n := 3) hz uw_X4 (hz _ zw_125)
  obtain ⟨c5, i5, K5⟩ := u_known (C := RX6) (T := TX6) (N := 0) (n := 0) hz uw_X6 (hz _ zw_197)
  obtain ⟨c6, i6, K6⟩ := u_known (C := RX7) (T := TX7) (N := 3) (n := 3) hz uw_X7 (hz _ zw_25)
  obtain ⟨c7, i7, K7⟩ := u_known (C := RX8) (T := TX8) (N := 0) (n := 0) hz uw_X8 (hz _ zw_183)
  obtain ⟨c8, i8, K8⟩ := u_known (C := RX9) (T := TX9) (N := 5) (n := 5) hz uw_X9 (hz _ zw_42)
  obtain ⟨c9, i9, K9⟩ := u_known (C := RX10) (T := TX10) (N := 0) (n := 0) hz uw_X10 (hz _ zw_190)
  obtain ⟨c10, i10, K10⟩ := u_known (C := RX11) (T := TX11) (N := 18) (n := 18) hz uw_X11 (hz _ zw_17)
  obtain ⟨c11, i11, K11⟩ := u_known (C := RX12) (T := TX12) (N := 26) (n := 26) hz uw_X12 (hz _ zw_765)
  obtain ⟨dC, dI, hKc⟩ : ∃ (dC : Nat → ClassId) (dI : Nat → Nat → Nat), ∀ (k : Nat) (q : vw_C), vwCl[k]? = some q → u_Kn s q.1 q.2.1 q.2.2 (dC k) (dI k) := by
    refine ⟨fun k => if k = 0 then c0 else if k = 1 then c1 else if k = 2 then c2 else if k = 3 then c3 else if k = 4 then c4 else if k = 5 then c5 else if k = 6 then c6 else if k = 7 then c7 else if k = 8 then c8 else if k = 9 then c9 else if k = 10 then c10 else c11, fun k => if k = 0 then i0 else if k = 1 then i1 else if k = 2 then i2 else if k = 3 then i3 else if k = 4 then i4 else if k = 5 then i5 else if k = 6 then i6 else if k = 7 then i7 else if k = 8 then i8 else if k = 9 then i9 else if k = 10 then i10 else i11, ?_⟩
    intro k q hq
    match k, hq with
    | 0, hq => cases hq; exact K0
    | 1, hq => cases hq; exact K1
    | 2, hq => cases hq; exact K2
    | 3, hq => cases hq; exact K3
    | 4, hq => cases hq; exact K4
    | 5, hq => cases hq; exact K5
    | 6, hq => cases hq; exact K6
    | 7, hq => cases hq; exact K7
    | 8, hq => cases hq; exact K8
    | 9, hq => cases hq; exact K9
    | 10, hq => cases hq; exact K10
    | 11, hq => cases hq; exact K11
    | k + 12, hq => simp [vwCl] at hq
  have hK : va_K (dC, dI) vwCl [] s := ⟨hKc, fun k q h => by simp at h⟩
  have hP : va_P (dC, dI) vwCl [] s.heap := fun k q h => by simp at h
  have hD : va_D (fun q : Nat => s.heap.size ≤ q) [] := ⟨fun i j p q h => by simp at h, fun k q h => by simp at h⟩
  have hT6 : va_T .int b L (fun i => .int (Int32.ofInt ((xs i).toInt))) (fun q : Nat => s.heap.size ≤ q) s s.heap := by
    obtain ⟨scr, h1, h2, h3, h4, h5⟩ := hX
    exact ⟨scr, h1, h2, h3, by omega, by rw [h4], fun j hj => by
      show _ = some (Value.int (Int32.ofInt (xs j).toInt))
      rw [h5 j hj, zof], hA b hbl⟩
  have hRO : zRO (zRC L (fun i => (xs i).toInt)) (fun q : Nat => s.heap.size ≤ q) (zRf b t0 t1 t2 t3 t4 t5) s := by
    refine ⟨fun j n f hj => ?_, fun j q hj => ?_, fun q hq => va_Nw.of rfl (hts _ (tab_ml q hq)), fun q hq => va_Nw.of rfl (hts _ (tab_cs q hq)), fun q hq => va_Nc.of (flat_of_before _ hgv _ (tab_nc q hq))⟩
    · match j, hj with
      | 0, hj => cases hj; exact T0
      | 1, hj => cases hj; exact T1
      | 2, hj => cases hj; exact T2
      | 3, hj => cases hj; exact T3
      | 4, hj => cases hj; exact T4
      | 5, hj => cases hj; exact T5
      | 6, hj => cases hj; exact hT6
      | j + 7, hj =>
        unfold zRC at hj
        rw [if_neg (by omega), if_neg (by omega), if_neg (by omega), if_neg (by omega), if_neg (by omega), if_neg (by omega), if_neg (by omega)] at hj
        cases hj
    · match j, hj with
      | 0, hj => cases hj; exact Z0
      | 1, hj => cases hj; exact Z1
      | 2, hj => cases hj; exact Z2
      | 3, hj => cases hj; exact Z3
      | 4, hj => cases hj; exact Z4
      | 5, hj => cases hj; exact Z5
      | j + 6, hj => simp [zst] at hj
  have hcx : zCx (zRC L (fun i => (xs i).toInt)) M_L_law p room_1 s m #[Value.ref b] meth c (fun q : Nat => s.heap.size ≤ q) (zRf b t0 t1 t2 t3 t4 t5) := ⟨hx, hb, hml, hr, hlocks, hown, fun h => absurd h (by decide), hz, fun q hq => hq, hRO, by decide⟩
  have hS : Z (zRC L (fun i => (xs i).toInt)) M_L_law 0 0 0 [some (zT 6), none, none, none] [] [] lawQ := law_start rfl rfl rfl rfl rfl rfl rfl (fun j => zin_of _) hL
  rw [lg_entry_eq]
  refine hS (D := (dC, dI)) (ads0 := []) (more := []) hcx ?_ ⟨[], [], hK, hP, hD, va_S.rf, rfl, rfl, fun i c h => by simp at h⟩ (zLR_entry (ads := []) (ro := zRf b t0 t1 t2 t3 t4 t5) (av := [zT 6]) (vs := [.ref b]) (n := 4) rfl (by decide) 3) rfl
  intro pc H locs more ls st r h' hq hwd hst hrd
  obtain ⟨ws', tys', hK', hP', hD', hS', hads', hH'⟩ := hwd
  obtain ⟨v, σ, rfl, -, rfl⟩ := hq
  rcases hrd with ⟨h1, h2, h3⟩ | ⟨z, h2, h3, h4⟩ | ⟨k, h2, h3, n, h4⟩
  · cases h2
  · obtain ⟨st', rfl, hs2⟩ := zs_I hst
    have hst2 := zs_nil hs2
    subst hst2
    refine va_forget (fun q hq => hS'.2.2 q hq) ?_
    exact lw_ret hx hb hr hlocks h3
  · cases h2
set_option maxHeartbeats 4000000 in
theorem lw_walk (l : Launch) (b : Addr) (xs : List Int32) : MetFree l x (headSpec (Jvm.Cond.code x code maxLocals ret :: tables_1) room_1) (lw_P b xs) (fun _ _ _ _ _ => True) lw_Q := by
  refine MetFree.of_bodyS (code := code) (maxLocals := maxLocals) (ret := ret) (by decide) ?_ ?_
  · intro args s m h hn
    obtain ⟨meth, c, h1, h2, h3, h4, h5, h6, -, -⟩ := Cond.code_spec hn (atoms_spec (ws := Jvm.Cond.code x code maxLocals ret :: tables_1) h _ List.mem_cons_self)
    exact ⟨meth, c, h1, h2, h3, h4, h5, h6⟩
  · intro p e s m args below meth c s₁ B hml0 hP _
    obtain ⟨rfl, hx, hbd, hgv⟩ := hP
    obtain ⟨scr, harrAt, hlist, hof, hsmall⟩ := hx
    obtain ⟨hcb, hkn, -, -⟩ := State.arrayAt?_spec harrAt
    have hown : s.vm.findClass R_law = some m.cls := findClass_of_methodNamed B.named
    have hts0 : ∀ c ∈ (Jvm.Cond.code x code maxLocals ret :: tables_1), c.before #[Value.ref b] s = true := atoms_spec (ws := Jvm.Cond.code x code maxLocals ret :: tables_1) B.pre
    have hts : ∀ w ∈ lw_tbl, w.before #[Value.ref b] s = true := k2_hts_sels lw_privs (fun w hw => hts0 w (List.mem_cons_of_mem _ hw)) lw_privs_ok
    have hml : c.maxLocals = 4 := B.maxLocals_eq (hts0 _ List.mem_cons_self)
    have X₀ : Stand p l e room_1 s m #[Value.ref b] below meth c s₁ [] 0 0 := Stand.of_body B
    have hh0 : s₁.heap = s.heap := by rw [B.state]; rfl
    have hsz : scr.slots.size = xs.length := by rw [← Array.length_toList, hlist, List.length_map]
    have hval : ∀ j : Nat, j < xs.length → scr.slots[j]? = some (.int (xs.getD j 0)) := fun j hj => by
      rw [← Array.getElem?_toList, hlist]
      simp [hj]
    have hbl : b < s.heap.size := (Array.getElem?_eq_some_iff.mp hcb).1
    have hX : va_X b xs.length (fun j => xs.getD j 0) s s.heap := ⟨scr, hcb, hof, hkn, hsz, hval⟩
    have K : W p l e room_1 s m #[Value.ref b] below meth c s₁.heap [] 0 0 (lw_Z below #[Value.ref b] s) (entryFrame m ([Value.ref b] : List Value).toArray 4) := by
      rw [hh0]
      exact whole_start l hbd ⟨B.exec, B.bytes, B.returns, hml, hown, hts, hX, hbl, B.notSynchronized, hgv⟩
    obtain ⟨t, a1, o, b1, b2, b3⟩ := K s₁ rfl X₀
    exact ⟨t, o, a1, b1, b2, b3⟩
theorem lw_pre_spec {args : Array Value} {s : State} (h : (Jvm.Cond.and given_1 narrow_1).before args s = true) (hr : rest_1_c.before args s = true) : ∃ (b : Addr) (xs : List Int32), lw_P b xs args s := by
  have hs := flat_of_before _ h
  have hq := flat_of_before _ hr
  have hc : (Cond.count 1).before args s = true := hs _ (by decide +kernel)
  have harr : (Cond.arrayOf (.arg 0) .int).before args s = true := hs _ (by decide +kernel)
  have hle : (Cond.le (.length (.arg 0)) (.int 384)).before args s = true := hs _ (by decide +kernel)
  have hlen : (Cond.isInt (.length (.arg 0))).before args s = true := hq _ (by decide +kernel)
  have hall : (Cond.all (.arg 0) (.isInt (.elem (.arg 0) (.index 0)))).before args s = true := hq _ (by decide +kernel)
  obtain ⟨b, xs, hb, hx⟩ := State.ints_of_pre rfl harr hlen hall
  have hsm : xs.length < 2 ^ 31 := hx.choose_spec.2.2.2
  have hev : (Term.length (.arg 0)).eval args s none [] s = some (.int xs.length.toInt32) := hx.length_eval hb
  have hv := Cond.le_ints hev (show (Term.int 384).eval args s none [] s = some (.int 384) from rfl)
  have hd : xs.length.toInt32 ≤ 384 := by
    simpa [Cond.before, Cond.holds, hv] using hle
  have hN : xs.length ≤ 384 := (Int32.ofNat_le_ofNat hsm (by decide)).mp (show Int32.ofNat xs.length ≤ Int32.ofNat 384 from hd)
  exact ⟨b, xs, Cond.one_arg hc (show args[0]? = some (.ref b) from hb), hx, hN, h⟩
theorem lw_comes (l : Launch) : Comes l x (Jvm.Cond.code x code maxLocals ret :: tables_1) room_1 (fun tb e args s => Calls_1 tb e args s ∧ rest_1 tb e args s ∧ Pre_1 tb e args s)
    (fun _ _ args s o t => lw_Q args s o t) := by
  intro p e ha hc hk s m args below hf hfit hheap happ hpre
  obtain ⟨b, xs, hP⟩ := lw_pre_spec hpre.2.2 hpre.2.1
  obtain ⟨k, o, h1, h2, h3, hQ⟩ := lw_walk l b xs p e ha hc hk s m args below hf ((Spec.applies_iff_loose hf).mp happ).1 hP trivial
  exact ⟨k, o, h1, h2, h3, hQ⟩
theorem lw_frame {s t : State} {o : Outcome} {args : Array Value} (h : Framed s o t [] 55 2397) :
    Framed s o t (fieldLocs frame_1_writes args s ++ arrayLocs frame_1_arrays args s ++ staticLocs frame_1_statics s) 55 2397 := h
theorem lw_limb (L : Cond) (hL : ∀ (args : Array Value) (s t : State), L.after args s (.returned (some (.int 1))) t = true) :
    ArmFor flags0 classFile x code maxLocals ret World_1 tables_1 room_1 Calls_1 rest_1 Pre_1
      (fun tb e a s o t => postC L tb e a s o t ∧ Framed s o t (fieldLocs frame_1_writes a s ++ arrayLocs frame_1_arrays a s ++ staticLocs frame_1_statics s) 55 2397) := by
  intro l _ _ _ p e ha hc hk s m args below hf hfit hheap happ hpre
  obtain ⟨k, o, h1, h2, h3, rfl, hF⟩ := lw_comes l p e ha hc hk s m args below hf hfit hheap happ hpre
  exact ⟨k, _, h1, h2, h3, hL args s _, lw_frame hF⟩
theorem i_vc : Claimed_1_1 ∧ Claimed_1_2 := ⟨lw_limb limb_1_1 (fun args s t => by simp [limb_1_1, Cond.after, Cond.holds, Cond.value]), lw_limb limb_1_2 (fun args s t => Cond.after_iff.mpr (by
  first | (rw [show limb_1_2 = Cond.eq .result (.int 1) from rfl, Cond.eq_ints (x := 1) (y := 1) rfl rfl]; simp; done) | (simp [limb_1_2, Cond.value, Term.eval]; done)))⟩
