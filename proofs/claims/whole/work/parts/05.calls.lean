/-! contracts and calls -/
def zQ (D : va_G) (ro : Nat → Nat) (ws : va_W) (sz : Nat) (Q : Option ZV → ZH → Prop) : Array Value → State → Outcome → State → Prop := fun _ st oc t =>
  (∃ (r : Option ZV) (v : Option Value) (h : ZH) (ws' : va_W) (tys' : List (ClassId × FieldType)) (more : List Nat), oc = .returned v ∧ Q r h ∧ va_P D vwCl ws' t.heap ∧ va_K D vwCl tys' t ∧ va_D (va_A ws sz) ws' ∧ ws'.map (·.1) = ws.map (·.1) ++ more ∧ zHR tys' ro ws' h ∧ r.toList.map (zv (ws.map (·.1) ++ more) ro) = v.toList.map some) ∧ va_F (va_A ws sz) st t
def zP (rc : ZRC) (D : va_G) (ro : Nat → Nat) (ws : va_W) (tys : List (ClassId × FieldType)) (sz : Nat) (vs : List Value) : Array Value → State → Prop := va_Pc vs (fun U => U.heap.size = sz ∧ va_P D vwCl ws U.heap ∧ va_K D vwCl tys U ∧ va_D (fun _ => True) ws ∧ zRO rc (va_A ws sz) ro U)
/-- THE CONTRACT: called with av in heap h, the method returns, with Q of its answer and of the heap -/
def K (rc : ZRC) (Y : ZY) (av : List ZV) (h : ZH) (Q : Option ZV → ZH → Prop) : Prop :=
  ∀ (l : Launch) (D : va_G) (ro : Nat → Nat) (ws : va_W) (tys : List (ClassId × FieldType)) (vs : List Value) (sz : Nat), zHR tys ro ws h → av.map (zv (ws.map (·.1)) ro) = vs.map some →
    Met l (zyN Y) (zWs Y) (zRm Y) (zP rc D ro ws tys sz vs) (zQ D ro ws sz Q) (zyMc Y) (zyMs Y) (va_A ws sz)
/-- the locals at the entry -/
def zent : List ZV → ZL
  | [] => []
  | v :: vs => if zcat v = 2 then some v :: none :: zent vs else some v :: zent vs
theorem zent_spec {ads : List Nat} {ro : Nat → Nat} : ∀ (av : List ZV) (vs : List Value) (k i : Nat) (v : ZV), av.map (zv ads ro) = vs.map some → (zent av)[i]? = some (some v) → ∃ w, zv ads ro v = some w ∧ (k + i, w) ∈ lv_args k vs
  | [], vs, k, i, v, _, hi => by simp [zent] at hi
  | a :: av, vs, k, i, v, h, hi => by
    obtain ⟨w, vs', rfl, hw, hr⟩ := zs_cons h
    have hcw := zv_cat hw
    unfold zent at hi
    by_cases h2 : zcat a = 2
    · rw [if_pos h2] at hi
      unfold lv_args
      rw [hcw, if_pos h2]
      match i, hi with
      | 0, hi => 
        simp at hi
        subst hi
        exact ⟨w, hw, List.mem_cons_self⟩
      | 1, hi => simp at hi
      | i + 2, hi =>
        simp only [List.getElem?_cons_succ] at hi
        obtain ⟨w', h3, h4⟩ := zent_spec av vs' (k + 2) i v hr hi
        exact ⟨w', h3, List.mem_cons_of_mem _ (by rw [show k + (i + 2) = k + 2 + i by omega]; exact h4)⟩
    · rw [if_neg h2] at hi
      unfold lv_args
      rw [hcw, if_neg h2]
      match i, hi with
      | 0, hi => 
        simp at hi
        subst hi
        exact ⟨w, hw, List.mem_cons_self⟩
      | i + 1, hi =>
        simp only [List.getElem?_cons_succ] at hi
        obtain ⟨w', h3, h4⟩ := zent_spec av vs' (k + 1) i v hr hi
        exact ⟨w', h3, List.mem_cons_of_mem _ (by rw [show k + (i + 1) = k + 1 + i by omega]; exact h4)⟩
theorem zent_len {ads : List Nat} {ro : Nat → Nat} : ∀ (av : List ZV) (vs : List Value), av.map (zv ads ro) = vs.map some → (lg_sl vs).length = (zent av).length
  | [], vs, h => by rw [zs_nil h]; rfl
  | a :: av, vs, h => by
    obtain ⟨w, vs', rfl, hw, hr⟩ := zs_cons h
    have hcw := zv_cat hw
    have ih := zent_len av vs' hr
    unfold lg_sl at ih ⊢
    unfold zent
    rw [List.flatMap_cons, List.length_append, ih, hcw]
    by_cases h2 : zcat a = 2
    · rw [if_pos h2, if_pos h2]
      simp
      omega
    · rw [if_neg h2, if_neg h2]
      simp
      omega
theorem zLR_entry {ads : List Nat} {ro : Nat → Nat} {av : List ZV} {vs : List Value} {n : Nat} (h : av.map (zv ads ro) = vs.map some) (hn : (zent av).length ≤ n) (k : Nat) : zLR ads ro (zent av ++ List.replicate k none) ((lg_sl vs ++ List.replicate (n - (lg_sl vs).length) Slot.unset).toArray) n := by
  have h1 := lv_entry vs (n := n) (by rw [zent_len av vs h]; exact hn)
  refine ⟨⟨h1.1, h1.2.1, fun q hq => by cases hq⟩, fun i v hi => ?_⟩
  by_cases hi2 : i < (zent av).length
  · rw [List.getElem?_append_left hi2] at hi
    obtain ⟨w, h2, h3⟩ := zent_spec av vs 0 i v h hi
    rw [Nat.zero_add] at h3
    exact ⟨w, h2, h1.2.2 _ h3⟩
  · rw [List.getElem?_append_right (by omega), List.getElem?_replicate] at hi
    split at hi <;> cases hi
theorem K_of {rc : ZRC} {Y : ZY} {av : List ZV} {h : ZH} {Q : Option ZV → ZH → Prop} (n : Nat) (hp : plainName (zyN Y).cls = true) (hn : (zent av).length ≤ zyL Y) (hz : Z rc Y 0 0 0 (zent av ++ List.replicate n none) [] h Q) : K rc Y av h Q := by
  intro l D ro ws tys vs sz hH hav
  refine Met.ofW (cc := zyC Y) (maxL := zyL Y) (ret := zyR Y) hp rfl ?_
  intro p e s m args below meth c s₁ B hml hv
  obtain ⟨rfl, hsz, hP, hK, hD0, hRO⟩ := hv
  subst hsz
  have hts := atoms_spec (ws := zWs Y) B.pre
  have hlocks := B.notSynchronized
  rw [lg_entry_eq]
  have hcx : zCx rc Y p (headSpec (zWs Y) (zRm Y)).room s m vs.toArray meth c (va_A ws s.heap.size) ro := ⟨B.exec, B.bytes, hml, B.returns, B.notSynchronized, findClass_of_methodNamed B.named, fun hi => (name_of_methodNamed B.named B.method).1.trans hi, fun w hw => hts w (List.mem_cons_of_mem _ hw), fun q hq => Or.inr hq, hRO, ⟨Nat.le_refl _, Nat.le_refl _, Nat.le_refl _, Nat.le_refl _⟩⟩
  refine hz (ads0 := ws.map (·.1)) (more := []) hcx ?_ ⟨ws, tys, hK, hP, hD0.self, va_S.rf, by simp, hH⟩ (by rw [List.append_nil]; exact zLR_entry hav hn n) rfl
  intro pc H locs more ls st r h' hq hwd hst hrd
  obtain ⟨ws', tys', hK', hP', hD', hS', hads', hH'⟩ := hwd
  have fin : ∀ (v : Option Value), r.toList.map (zv (ws.map (·.1) ++ more) ro) = v.toList.map some → ∀ t : State, t.heap = H → s.WarmedH t.vm → zQ D ro ws s.heap.size Q vs.toArray s (.returned v) t := fun v hv t ht hW => ⟨⟨r, v, h', ws', tys', more, rfl, hq, by rw [ht]; exact hP', va_K.moved hW.alike hK', hD', hads', hH', hv⟩, hS'.F ht⟩
  have hx := B.exec
  have hb := B.bytes
  have hrr := B.returns
  rcases hrd with ⟨h1, rfl, h3⟩ | ⟨z, rfl, h3, h4⟩ | ⟨k, rfl, h3, n, h4⟩
  · have hst2 := zs_nil hst
    subst hst2
    exact W.vret hx hb (hrr.trans h1) (fin none hst) hS'.2.2 h3
  · obtain ⟨st', rfl, hs2⟩ := zs_I hst
    have hst2 := zs_nil hs2
    subst hst2
    rcases h4 with h4 | ⟨h4, h5⟩
    · exact W.iret hx hb (hrr.trans h4) (fin (some (.int (Int32.ofInt z))) hst) hS'.2.2 h3
    · exact W.zret hx hb (hrr.trans h4) (by rcases h5 with rfl | rfl <;> rfl) (fin (some (.int (Int32.ofInt z))) hst) hS'.2.2 h3
  · obtain ⟨a, st', ha, rfl, hs2⟩ := zs_R hst
    have hst2 := zs_nil hs2
    subst hst2
    exact W.aret hx hb (hrr.trans h4) (Or.inl ⟨n, rfl⟩) (Or.inr ⟨a, rfl⟩) (fin (some (.ref a)) hst) hS'.2.2 h3
theorem K.weaken {rc : ZRC} {Y : ZY} {av : List ZV} {h : ZH} {Q Q' : Option ZV → ZH → Prop} (hk : K rc Y av h Q) (hq : ∀ r h', Q r h' → Q' r h') : K rc Y av h Q' := by
  intro l D ro ws tys vs sz hH hav
  intro p e ha hc hk2 s m args below hf happ hP hX
  obtain ⟨t, o, h1, h2, h3, h4, h5⟩ := hk l D ro ws tys vs sz hH hav p e ha hc hk2 s m args below hf happ hP hX
  obtain ⟨⟨r, v, h', ws', tys', more, e1, e2, e3⟩, h6⟩ := h4
  exact ⟨t, o, h1, h2, h3, ⟨⟨r, v, h', ws', tys', more, e1, hq r h' e2, e3⟩, h6⟩, h5⟩
theorem zs_split {f : ZV → Option Value} : ∀ (T S : List ZV) (st : List Value), (T ++ S).map f = st.map some → ∃ st1 st2, st = st1 ++ st2 ∧ T.map f = st1.map some ∧ S.map f = st2.map some
  | [], S, st, h => ⟨[], st, rfl, rfl, h⟩
  | v :: T, S, st, h => by
    obtain ⟨w, st', rfl, hw, hs⟩ := zs_cons (S := T ++ S) h
    obtain ⟨s1, s2, rfl, h1, h2⟩ := zs_split T S st' hs
    exact ⟨w :: s1, s2, rfl, zs_push hw h1, h2⟩
theorem zs_rev {f : ZV → Option Value} {av : List ZV} {S : List ZV} {st : List Value} (h : (av.reverse ++ S).map f = st.map some) : ∃ As rest : List Value, st = As.reverse ++ rest ∧ av.map f = As.map some ∧ S.map f = rest.map some := by
  obtain ⟨s1, s2, rfl, h1, h2⟩ := zs_split av.reverse S st h
  refine ⟨s1.reverse, s2, by simp, ?_, h2⟩
  have h3 := congrArg List.reverse h1
  rw [← List.map_reverse, ← List.map_reverse, List.reverse_reverse] at h3
  exact h3
theorem zs_cats {ads : List Nat} {ro : Nat → Nat} : ∀ (S : List ZV) (st : List Value), S.map (zv ads ro) = st.map some → (st.map fun v => v.category).sum = (S.map zcat).sum
  | [], st, h => by rw [zs_nil h]; rfl
  | v :: S, st, h => by
    obtain ⟨w, st', rfl, hw, hs⟩ := zs_cons h
    simp only [List.map_cons, List.sum_cons]
    rw [zs_cats S st' hs, zv_cat hw]
theorem zRO_moved {rc : ZRC} {A : Nat → Prop} {ro : Nat → Nat} {u U : State} (h : zRO rc A ro u) (hvm : u.vm.Alike U.vm) (he : U.heap = u.heap) (hw : ∀ q ∈ zml, va_Nw (.methodLinkNest q.1 q.2.1 q.2.2 "PierYears") U) (hc : ∀ q ∈ zcs, va_Nw (.castable q.1 q.2) U) : zRO rc A ro U :=
  ⟨fun j n f hj => by rw [he]; exact (h.1 j n f hj).moved hvm, fun j q hj => by rw [he]; exact (h.2.1 j q hj).moved hvm, hw, hc, fun q hq => (h.2.2.2.2 q hq).moved hvm⟩
theorem zP_blind {rc : ZRC} {D : va_G} {ro : Nat → Nat} {ws : va_W} {tys : List (ClassId × FieldType)} {sz : Nat} {vs : List Value} : FrameBlind (zP rc D ro ws tys sz vs) := by
  intro a U g mk hq
  obtain ⟨q0, q1, qP, qK, qD, qR⟩ := hq
  exact ⟨q0, q1, qP, va_K.moved (u := U) (U := U.calling g mk a) (Vm.Alike.refl U.vm) qK, qD, zRO_moved (u := U) (U := U.calling g mk a) qR (Vm.Alike.refl U.vm) rfl (fun q hq => va_Nw.same rfl rfl (qR.2.2.1 q hq)) (fun q hq => va_Nw.same rfl rfl (qR.2.2.2.1 q hq))⟩
theorem zP_call {rc : ZRC} {D : va_G} {ro : Nat → Nat} {ws : va_W} {tys : List (ClassId × FieldType)} {vs : List Value} {A : Nat → Prop} {s : State} {H : Heap} {locs : List Loc} (hK : va_K D vwCl tys s) (hP : va_P D vwCl ws H) (hD : va_D A ws) (hS : va_S A s.heap H locs) (hA : ∀ q, s.heap.size ≤ q → A q) (hRO : zRO rc A ro s) : ∀ U : State, U.heap = H → s.WarmedH U.vm → zP rc D ro ws tys H.size vs vs.toArray U := by
  intro U hU hW
  have hsub : ∀ q, va_A ws H.size q → A q := fun q hq => by
    rcases hq with ⟨k, e, hk⟩ | hq
    · exact hD.2 k (q, e) hk
    · exact hA q (Nat.le_trans hS.1 hq)
  refine ⟨rfl, by rw [hU], by rw [hU]; exact hP, va_K.moved hW.alike hK, hD.weaken (fun _ _ _ _ => trivial), ⟨fun j n f hj => ?_, fun j q hj => ?_, fun q hq => (hRO.2.2.1 q hq).warmM hW, fun q hq => (hRO.2.2.2.1 q hq).warmC hW, fun q hq => (hRO.2.2.2.2 q hq).moved hW.alike⟩⟩
  · rw [hU]
    exact (((hRO.1 j n f hj).kept hS.2.1).moved hW.alike).narrow hsub
  · rw [hU]
    exact (((hRO.2.1 j q hj).kept hS.2.1).moved hW.alike).narrow hsub
/-- behind a call -/
theorem z_after {rc : ZRC} {Y : ZY} {kc ks pc : Nat} {L : ZL} {S : List ZV} {Q Qc : Option ZV → ZH → Prop} {mc ms : Nat} {p : Program} {l : Launch} {e : Env} {R : Room} {s : State} {m : MethodId} {args : Array Value} {below : List Frame} {meth : Method} {c : Code} {D : va_G} {A : Nat → Prop} {ro : Nat → Nat} {ads0 : List Nat} {Qm : State → Prop} {H : Heap} {locs : List Loc} {more : List Nat} {ls : Array Slot} {st0 rest : List Value} {ws : va_W} {a : Array Value}
    (hc : zCx rc Y p R s m args meth c A ro) (hr : zRt Y p l e R s m args below meth c D A ro ads0 Q Qm) (hD : va_D A ws) (hS : va_S A s.heap H locs) (hads : ws.map (·.1) = ads0 ++ more) (hl : zLR (ads0 ++ more) ro L ls (zyL Y)) (hs : S.map (zv (ads0 ++ more) ro) = rest.map some)
    (hrun : va_Run p l e R s m args below meth c H locs kc ks mc ms (F0 m pc ls st0) rest (zQ D ro ws H.size Qc a) (va_A ws H.size))
    (k : ∀ r h', Qc r h' → Z rc Y (kc + mc) (ks + ms) (pc + 3) L (r.toList ++ S) h' Q) : W p l e R s m args below meth c H locs kc ks Qm (F0 m pc ls st0) := by
  intro T hT X
  obtain ⟨v, st₀, t, T', Ls, h0, X', hL, e1, e2, ⟨⟨r, v', h', ws', tys', more', hv, hq, hP', hK', hD', hads', hH', hst'⟩, hz, hk⟩, stp⟩ := hrun T hT X
  cases hv
  rw [h0] at hz hk
  have hsub : ∀ q, va_A ws H.size q → A q := fun q hq => by
    rcases hq with ⟨k, e, hk⟩ | hq
    · exact hD.2 k (q, e) hk
    · exact hc.2.2.2.2.2.2.2.2.1 q (Nat.le_trans hS.1 hq)
  have ea : ads0 ++ (more ++ more') = (ads0 ++ more) ++ more' := (List.append_assoc _ _ _).symm
  have hvm : s.vm.Alike t.vm := by rw [← e2]; exact X'.warmed.alike
  have hSt : va_S A s.heap T'.heap (locs ++ Ls) := ⟨Nat.le_trans hS.1 (by rw [e1]; exact hz), fun q h1 h2 => by rw [e1, hk q (Nat.lt_of_lt_of_le h1 hS.1) (fun z => h2 (hsub q z))]; exact hS.2.1 q h1 h2, fun q hq => by
      rcases List.mem_append.mp hq with h | h
      · exact hS.2.2 q h
      · exact hsub _ (hL q h)⟩
  have hW := k r h' hq (more := more ++ more') (ls := ls) (st := v.toList ++ rest) (H := T'.heap) (locs := locs ++ Ls) hc hr ⟨ws', tys', va_K.moved hvm.symm hK', by rw [e1]; exact hP', hD'.weaken (fun _ q _ h => hsub q.1 h), hSt, by rw [hads', hads, ea], hH'⟩ (by rw [ea]; exact zLR_mono hl) (by
    rw [ea, List.map_append, List.map_append, zmap_mono hs]
    rw [hads] at hst'
    rw [hst'])
  obtain ⟨t2, a1, b1⟩ := hW T' rfl X'
  exact ⟨t2, stp t2 a1, b1⟩
/-- what a callee is known by: its code, its class, its parameters -/
def zok (Y : ZY) : Prop := Cond.code (zyN Y) (zyC Y) (zyL Y) (zyR Y) ∈ zTB ∧ Cond.initialized (zyN Y).cls ∈ zTB ∧ zyL Y ≤ 15 ∧ ((zyN Y).cls ≠ "java/lang/invoke/MethodHandle" ∧ (zyN Y).cls ≠ "java/lang/invoke/VarHandle") ∧ (parseMethodDescriptor (zyN Y).desc).map (fun d => d.parameters.length) = some (zyP Y)
theorem zpar {y : MethodName} {n : Nat} (h : (parseMethodDescriptor y.desc).map (fun d => d.parameters.length) = some n) : ∀ sig, parseMethodDescriptor y.desc = some sig → n = sig.parameters.length := fun sig hs => by
  rw [hs] at h
  exact (Option.some.inj h).symm
theorem zpay {Y : ZY} {args : Array Value} {s : State} (hts : ∀ w ∈ zTB, w.before args s = true) (h : Cond.code (zyN Y) (zyC Y) (zyL Y) (zyR Y) ∈ zTB) : ∀ w ∈ zWs Y, ∀ (a' : Array Value) (U : State), s.WarmedH U.vm → w.before a' U = true :=
  pay_in hts (fun w hw => by
    rcases List.mem_cons.mp hw with rfl | hw
    · exact ⟨h, good_of_word (List.mem_filter.mp h).2⟩
    · exact ⟨hw, good_of_word (List.mem_filter.mp hw).2⟩)
theorem zroom {Y Y' : ZY} {R : Room} (hl : zyL Y' ≤ 15) (hd : zyD Y' + 1 ≤ zyD Y) (h1 : zyD Y ≤ R.frames) (h2 : 34 * zyD Y ≤ R.locals) : (zRm Y').frames + 1 ≤ R.frames ∧ 8 + (zyL Y' + 11) + (zRm Y').locals ≤ R.locals := by
  have e1 : (zRm Y').frames = zyD Y' := rfl
  have e2 : (zRm Y').locals = 34 * zyD Y' := rfl
  rw [e1, e2]
  omega
theorem z_invS {rc : ZRC} {Y Y' : ZY} {kc ks pc : Nat} {L : ZL} {S : List ZV} {h : ZH} {Q Qc : Option ZV → ZH → Prop} {idx : Nat} {av : List ZV} (hd : decode (zyC Y) pc = .ok (.invokestatic idx, 3)) (hml : Cond.methodLink (zyN Y).cls idx (zyN Y') ∈ zTB) (hst : Cond.static (zyN Y') ∈ zTB) (hok : zok Y') (hlv : zyD Y' + 1 ≤ zyD Y) (hn : av.length = zyP Y') (hroom : (S.map zcat).sum ≤ 8) (hcm : kc + zyMc Y' ≤ zyMc Y ∧ ks + zyMs Y' ≤ zyMs Y) (hK : K rc Y' av h Qc)
    (k : ∀ r h', Qc r h' → Z rc Y (kc + zyMc Y') (ks + zyMs Y') (pc + 3) L (r.toList ++ S) h' Q) : Z rc Y kc ks pc L (av.reverse ++ S) h Q := by
  intro p l e R s m args below meth c D A ro ads0 Qm H locs more ls st hc hr hw hl hs
  obtain ⟨As, rest, rfl, hAs, hrest⟩ := zs_rev hs
  obtain ⟨ws, tys, hKw, hP, hD, hS, hads, hH⟩ := hw
  have hts := hc.2.2.2.2.2.2.2.1
  obtain ⟨r1, r2, r3, r4⟩ := hc.2.2.2.2.2.2.2.2.2.2
  have hrm := zroom hok.2.2.1 hlv r1 r2
  have hM := hK l D ro ws tys As H.size hH (by rw [hads]; exact hAs)
  refine z_after hc hr hD hS hads hl hrest (va_runS (As := As) (rest := rest) (n := zyP Y') ⟨hc.1, hc.2.1, hc.2.2.1, hc.2.2.2.2.2.1, hts⟩ hM ⟨⟨rfl, rfl, hrm.1, hrm.2, zpay hts hok.1, List.mem_cons_self, hts _ hok.1, hts _ hok.2.1, hok.2.2.2.1, zpar hok.2.2.2.2, hts _ hml⟩, hts _ hst⟩ ⟨zP_blind, zP_call hKw hP hD hS hc.2.2.2.2.2.2.2.2.1 hc.2.2.2.2.2.2.2.2.2.1⟩ rfl (by rw [← hn]; exact (zs_len hAs).symm) hl.1.1 rfl (lv_room (by rw [zs_cats S rest hrest]; exact hroom)) hd ⟨Nat.le_trans hcm.1 r3, Nat.le_trans hcm.2 r4⟩) k
theorem z_invV {rc : ZRC} {Y Y' : ZY} {kc ks pc : Nat} {L : ZL} {S : List ZV} {h : ZH} {Q Qc : Option ZV → ZH → Prop} {idx o ci : Nat} {av fs : List ZV} (hd : decode (zyC Y) pc = .ok (.invokevirtual idx, 3)) (hml : Cond.methodLink (zyN Y).cls idx (zyN Y') ∈ zTB) (hin : Cond.instanceMethod (zyN Y') ∈ zTB) (hse : Cond.selects (zyN Y').cls (zyN Y') (zyN Y') ∈ zTB) (hci : (vwCl[ci]?).map (·.1) = some (zyN Y').cls) (hok : zok Y') (hlv : zyD Y' + 1 ≤ zyD Y) (hn : av.length = zyP Y') (hroom : (S.map zcat).sum ≤ 8) (hcm : kc + zyMc Y' ≤ zyMc Y ∧ ks + zyMs Y' ≤ zyMs Y) (hh : h[o]? = some (zO ci fs)) (hK : K rc Y' (zR o :: av) h Qc)
    (k : ∀ r h', Qc r h' → Z rc Y (kc + zyMc Y') (ks + zyMs Y') (pc + 3) L (r.toList ++ S) h' Q) : Z rc Y kc ks pc L (av.reverse ++ zR o :: S) h Q := by
  intro p l e R s m args below meth c D A ro ads0 Qm H locs more ls st hc hr hw hl hs
  obtain ⟨As, rest0, rfl, hAs, hrest0⟩ := zs_rev hs
  obtain ⟨a, rest, ha, rfl, hrest⟩ := zs_R hrest0
  obtain ⟨ws, tys, hKw, hP, hD, hS, hads, hH⟩ := hw
  have hts := hc.2.2.2.2.2.2.2.1
  obtain ⟨r1, r2, r3, r4⟩ := hc.2.2.2.2.2.2.2.2.2.2
  have hrm := zroom hok.2.2.1 hlv r1 r2
  have hM := hK l D ro ws tys (.ref a :: As) H.size hH (by rw [hads]; exact zs_push (by simp [zv, ha]) hAs)
  obtain ⟨⟨a', e'⟩, hq, fs', he, hfs⟩ := hH.2 o _ hh
  have hae : a = a' := zads (hads ▸ ha) hq
  subst hae
  dsimp only at he
  subst he
  obtain ⟨⟨C, T, N⟩, hcl, hC⟩ := Option.map_eq_some_iff.mp hci
  have hrecv := va_recv hKw hP hcl hq
  rw [hC] at hrecv
  refine z_after hc hr hD hS hads hl hrest (va_runV (C := (zyN Y').cls) (b := a) (As := As) (rest := rest) (n := zyP Y') ⟨hc.1, hc.2.1, hc.2.2.1, hc.2.2.2.2.2.1, hts⟩ hM ⟨⟨rfl, rfl, hrm.1, hrm.2, zpay hts hok.1, List.mem_cons_self, hts _ hok.1, hts _ hok.2.1, hok.2.2.2.1, zpar hok.2.2.2.2, hts _ hml⟩, hts _ hin, hts _ hse⟩ ⟨zP_blind, hrecv, zP_call hKw hP hD hS hc.2.2.2.2.2.2.2.2.1 hc.2.2.2.2.2.2.2.2.2.1⟩ rfl (by rw [← hn]; exact (zs_len hAs).symm) hl.1.1 rfl (lv_room (by rw [zs_cats S rest hrest]; exact hroom)) hd ⟨Nat.le_trans hcm.1 r3, Nat.le_trans hcm.2 r4⟩) k
/-- an overriding method: x is named, the receiver's class ci selects Y' -/
theorem z_invU {rc : ZRC} {Y Y' X : ZY} {kc ks pc : Nat} {L : ZL} {S : List ZV} {h : ZH} {Q Qc : Option ZV → ZH → Prop} {idx o ci : Nat} {av fs : List ZV} (C : String) (hd : decode (zyC Y) pc = .ok (.invokevirtual idx, 3)) (hml : Cond.methodLink (zyN Y).cls idx (zyN X) ∈ zTB) (hsm : Cond.sameMethod (zyN X).cls (zyN X).cls (zyN X).name (zyN X).desc ∈ zTB) (hxi : Cond.instanceMethod (zyN X) ∈ zTB) (hin : Cond.instanceMethod (zyN Y') ∈ zTB) (hse : Cond.selects C (zyN X) (zyN Y') ∈ zTB) (hci : (vwCl[ci]?).map (·.1) = some C) (hokX : zok X) (hok : zok Y') (hlv : zyD Y' + 1 ≤ zyD Y) (hn : av.length = zyP X) (hroom : (S.map zcat).sum ≤ 8) (hcm : kc + zyMc Y' ≤ zyMc Y ∧ ks + zyMs Y' ≤ zyMs Y) (hh : h[o]? = some (zO ci fs)) (hK : K rc Y' (zR o :: av) h Qc)
    (k : ∀ r h', Qc r h' → Z rc Y (kc + zyMc Y') (ks + zyMs Y') (pc + 3) L (r.toList ++ S) h' Q) : Z rc Y kc ks pc L (av.reverse ++ zR o :: S) h Q := by
  intro p l e R s m args below meth c D A ro ads0 Qm H locs more ls st hc hr hw hl hs
  obtain ⟨As, rest0, rfl, hAs, hrest0⟩ := zs_rev hs
  obtain ⟨a, rest, ha, rfl, hrest⟩ := zs_R hrest0
  obtain ⟨ws, tys, hKw, hP, hD, hS, hads, hH⟩ := hw
  have hts := hc.2.2.2.2.2.2.2.1
  obtain ⟨r1, r2, r3, r4⟩ := hc.2.2.2.2.2.2.2.2.2.2
  have hrm := zroom hok.2.2.1 hlv r1 r2
  have hM := hK l D ro ws tys (.ref a :: As) H.size hH (by rw [hads]; exact zs_push (by simp [zv, ha]) hAs)
  obtain ⟨⟨a', e'⟩, hq, fs', he, hfs⟩ := hH.2 o _ hh
  have hae : a = a' := zads (hads ▸ ha) hq
  subst hae
  dsimp only at he
  subst he
  obtain ⟨⟨C', T, N⟩, hcl, hC⟩ := Option.map_eq_some_iff.mp hci
  have hrecv := va_recv hKw hP hcl hq
  rw [hC] at hrecv
  refine z_after hc hr hD hS hads hl hrest (va_runU (C := C) (owner := (zyN X).cls) (x := zyN X) (b := a) (As := As) (rest := rest) (n := zyP X) ⟨hc.1, hc.2.1, hc.2.2.1, hc.2.2.2.2.2.1, hts⟩ hM ⟨⟨rfl, rfl, hrm.1, hrm.2, zpay hts hok.1, List.mem_cons_self⟩, hts _ hok.1, hts _ hok.2.1, hokX.2.2.2.1, zpar hokX.2.2.2.2, hts _ hml, hts _ hsm, va_Decl.of (hts _ hxi) (hts _ hokX.1), hts _ hse, hts _ hin⟩ ⟨zP_blind, hrecv, zP_call hKw hP hD hS hc.2.2.2.2.2.2.2.2.1 hc.2.2.2.2.2.2.2.2.2.1⟩ rfl (by rw [← hn]; exact (zs_len hAs).symm) hl.1.1 rfl (lv_room (by rw [zs_cats S rest hrest]; exact hroom)) hd ⟨Nat.le_trans hcm.1 r3, Nat.le_trans hcm.2 r4⟩) k
/-- super.y(..) -/
theorem z_invSU {rc : ZRC} {Y Y' : ZY} {kc ks pc : Nat} {L : ZL} {S : List ZV} {h : ZH} {Q Qc : Option ZV → ZH → Prop} {idx o ci : Nat} {av fs : List ZV} (hd : decode (zyC Y) pc = .ok (.invokespecial idx, 3)) (hml : Cond.methodLink (zyN Y).cls idx (zyN Y') ∈ zTB) (hsm : Cond.sameMethod (zyN Y').cls (zyN Y').cls (zyN Y').name (zyN Y').desc ∈ zTB) (hsu : Cond.superclass (zyN Y).cls (zyN Y').cls ∈ zTB) (hin : Cond.instanceMethod (zyN Y') ∈ zTB) (hni : (zyN Y').name ≠ "<init>") (hok : zok Y') (hlv : zyD Y' + 1 ≤ zyD Y) (hn : av.length = zyP Y') (hroom : (S.map zcat).sum ≤ 8) (hcm : kc + zyMc Y' ≤ zyMc Y ∧ ks + zyMs Y' ≤ zyMs Y) (hci : ci < 12) (hh : h[o]? = some (zO ci fs)) (hK : K rc Y' (zR o :: av) h Qc)
    (k : ∀ r h', Qc r h' → Z rc Y (kc + zyMc Y') (ks + zyMs Y') (pc + 3) L (r.toList ++ S) h' Q) : Z rc Y kc ks pc L (av.reverse ++ zR o :: S) h Q := by
  intro p l e R s m args below meth c D A ro ads0 Qm H locs more ls st hc hr hw hl hs
  obtain ⟨As, rest0, rfl, hAs, hrest0⟩ := zs_rev hs
  obtain ⟨a, rest, ha, rfl, hrest⟩ := zs_R hrest0
  obtain ⟨ws, tys, hKw, hP, hD, hS, hads, hH⟩ := hw
  have hts := hc.2.2.2.2.2.2.2.1
  obtain ⟨r1, r2, r3, r4⟩ := hc.2.2.2.2.2.2.2.2.2.2
  have hrm := zroom hok.2.2.1 hlv r1 r2
  have hM := hK l D ro ws tys (.ref a :: As) H.size hH (by rw [hads]; exact zs_push (by simp [zv, ha]) hAs)
  obtain ⟨⟨a', e'⟩, hq, fs', he, hfs⟩ := hH.2 o _ hh
  have hae : a = a' := zads (hads ▸ ha) hq
  subst hae
  dsimp only at he
  subst he
  obtain ⟨r, hcl, -⟩ := hP o _ hq
  have hrecv := va_recv hKw hP hcl hq
  have hat := (hKw.1 ci r hcl).2
  refine z_after hc hr hD hS hads hl hrest (va_runSU (b := a) (As := As) (rest := rest) (n := zyP Y') hat ⟨hc.1, hc.2.1, hc.2.2.1, hc.2.2.2.2.2.1, hts⟩ hM ⟨⟨rfl, rfl, hrm.1, hrm.2, zpay hts hok.1, List.mem_cons_self⟩, hts _ hml, hts _ hsm, hts _ hsu, hts _ hin, hts _ hok.2.1, hts _ hok.1, hni, zpar hok.2.2.2.2⟩ ⟨zP_blind, hrecv, zP_call hKw hP hD hS hc.2.2.2.2.2.2.2.2.1 hc.2.2.2.2.2.2.2.2.2.1⟩ rfl (by rw [← hn]; exact (zs_len hAs).symm) hl.1.1 rfl (lv_room (by rw [zs_cats S rest hrest]; exact hroom)) hd ⟨Nat.le_trans hcm.1 r3, Nat.le_trans hcm.2 r4⟩) k
/-- a constructor that is public -/
theorem z_invI {rc : ZRC} {Y Y' : ZY} {kc ks pc : Nat} {L : ZL} {S : List ZV} {h : ZH} {Q Qc : Option ZV → ZH → Prop} {idx o : Nat} (hd : decode (zyC Y) pc = .ok (.invokespecial idx, 3)) (hml : Cond.methodLink (zyN Y).cls idx (zyN Y') ∈ zTB) (hin : Cond.instanceMethod (zyN Y') ∈ zTB) (hni : (zyN Y').name = "<init>") (hyr : zyR Y' = none) (hok : zok Y') (hlv : zyD Y' + 1 ≤ zyD Y) (hn : 0 = zyP Y') (hroom : (S.map zcat).sum ≤ 8) (hcm : kc + zyMc Y' ≤ zyMc Y ∧ ks + zyMs Y' ≤ zyMs Y) (hK : K rc Y' [zR o] h Qc)
    (k : ∀ r h', Qc r h' → Z rc Y (kc + zyMc Y') (ks + zyMs Y') (pc + 3) L (r.toList ++ S) h' Q) : Z rc Y kc ks pc L (zR o :: S) h Q := by
  intro p l e R s m args below meth c D A ro ads0 Qm H locs more ls st hc hr hw hl hs
  obtain ⟨a, rest, ha, rfl, hrest⟩ := zs_R hs
  obtain ⟨ws, tys, hKw, hP, hD, hS, hads, hH⟩ := hw
  have hts := hc.2.2.2.2.2.2.2.1
  obtain ⟨r1, r2, r3, r4⟩ := hc.2.2.2.2.2.2.2.2.2.2
  have hrm := zroom hok.2.2.1 hlv r1 r2
  have hM := hK l D ro ws tys [.ref a] H.size hH (by rw [hads]; exact zs_push (by simp [zv, ha]) rfl)
  refine z_after hc hr hD hS hads hl hrest (va_runI (b := a) (As := []) (rest := rest) (n := zyP Y') ⟨hc.1, hc.2.1, hc.2.2.1, hc.2.2.2.2.2.1, hts⟩ hM ⟨⟨rfl, rfl, hrm.1, hrm.2, zpay hts hok.1, by rw [← hyr]; exact List.mem_cons_self, by rw [← hyr]; exact hts _ hok.1, hts _ hok.2.1, hok.2.2.2.1, zpar hok.2.2.2.2, hts _ hml⟩, hni, hts _ hin⟩ ⟨zP_blind, zP_call hKw hP hD hS hc.2.2.2.2.2.2.2.2.1 hc.2.2.2.2.2.2.2.2.2.1⟩ rfl hn hl.1.1 rfl (lv_room (by rw [zs_cats S rest hrest]; exact hroom)) hd ⟨Nat.le_trans hcm.1 r3, Nat.le_trans hcm.2 r4⟩) k
/-- a nest mate's private constructor -/
theorem z_invIN {rc : ZRC} {Y Y' : ZY} {kc ks pc : Nat} {L : ZL} {S : List ZV} {h : ZH} {Q Qc : Option ZV → ZH → Prop} {idx o : Nat} (hd : decode (zyC Y) pc = .ok (.invokespecial idx, 3)) (hml : ((zyN Y).cls, idx, zyN Y') ∈ zml) (hin : Cond.instanceMethod (zyN Y') ∈ zTB) (hni : (zyN Y').name = "<init>") (hyr : zyR Y' = none) (hok : zok Y') (hlv : zyD Y' + 1 ≤ zyD Y) (hn : 0 = zyP Y') (hroom : (S.map zcat).sum ≤ 8) (hcm : kc + zyMc Y' ≤ zyMc Y ∧ ks + zyMs Y' ≤ zyMs Y) (hK : K rc Y' [zR o] h Qc)
    (k : ∀ r h', Qc r h' → Z rc Y (kc + zyMc Y') (ks + zyMs Y') (pc + 3) L (r.toList ++ S) h' Q) : Z rc Y kc ks pc L (zR o :: S) h Q := by
  intro p l e R s m args below meth c D A ro ads0 Qm H locs more ls st hc hr hw hl hs
  obtain ⟨a, rest, ha, rfl, hrest⟩ := zs_R hs
  obtain ⟨ws, tys, hKw, hP, hD, hS, hads, hH⟩ := hw
  have hts := hc.2.2.2.2.2.2.2.1
  obtain ⟨r1, r2, r3, r4⟩ := hc.2.2.2.2.2.2.2.2.2.2
  have hrm := zroom hok.2.2.1 hlv r1 r2
  have hM := hK l D ro ws tys [.ref a] H.size hH (by rw [hads]; exact zs_push (by simp [zv, ha]) rfl)
  have hnw := (hc.2.2.2.2.2.2.2.2.2.1).2.2.1 _ hml
  refine z_after hc hr hD hS hads hl hrest (va_runIN (host := "PierYears") (b := a) (As := []) (rest := rest) (n := zyP Y') ⟨hc.1, hc.2.1, hc.2.2.1, hc.2.2.2.2.2.1, hts⟩ hM ⟨⟨⟨rfl, rfl, hrm.1, hrm.2, zpay hts hok.1, by rw [← hyr]; exact List.mem_cons_self⟩, by rw [← hyr]; exact hts _ hok.1, hts _ hok.2.1, hok.2.2.2.1, zpar hok.2.2.2.2, va_Nw.use rfl hnw⟩, hni, hts _ hin⟩ ⟨zP_blind, zP_call hKw hP hD hS hc.2.2.2.2.2.2.2.2.1 hc.2.2.2.2.2.2.2.2.2.1⟩ rfl hn hl.1.1 rfl (lv_room (by rw [zs_cats S rest hrest]; exact hroom)) hd ⟨Nat.le_trans hcm.1 r3, Nat.le_trans hcm.2 r4⟩) k
/-- Object's own constructor -/
theorem z_obj {rc : ZRC} {Y : ZY} {kc ks pc : Nat} {L : ZL} {S : List ZV} {h : ZH} {Q : Option ZV → ZH → Prop} {idx o : Nat} (hd : decode (zyC Y) pc = .ok (.invokespecial idx, 3)) (hml : Cond.methodLink (zyN Y).cls idx Lib.objectInit ∈ zTB) (h1 : Cond.instanceMethod Lib.objectInit ∈ zTB) (h2 : Cond.code Lib.objectInit ⟨#[0xb1]⟩ 1 none ∈ zTB) (hlv : 1 ≤ zyD Y) (hroom : (S.map zcat).sum ≤ 8) (k : Z rc Y kc ks (pc + 3) L S h Q) : Z rc Y kc ks pc L (zR o :: S) h Q := by
  intro p l e R s m args below meth c D A ro ads0 Qm H locs more ls st hc hr hw hl hs
  obtain ⟨a, rest, ha, rfl, hrest⟩ := zs_R hs
  have hts := hc.2.2.2.2.2.2.2.1
  obtain ⟨r1, r2, r3, r4⟩ := hc.2.2.2.2.2.2.2.2.2.2
  have hq := lv_room (m := m) (pc := pc) (ls := ls) (rest := .ref a :: rest) (st := rest) (by rw [zs_cats S rest hrest]; exact hroom)
  exact W.objInit hc.1 hc.2.1 hc.2.2.2.2.2.1 (hts _ hml) (hts _ h1) (hts _ h2) rfl (hl.1.1.trans hc.2.2.1.symm) rfl hd (Nat.le_trans hlv r1) (by omega) (k hc hr hw hl hrest)
def zcpy (f g : Nat → Int) (sp dp n : Nat) : Nat → Int := fun k => if dp ≤ k ∧ k < dp + n then f (sp + (k - dp)) else g k
/-- System.arraycopy within one array of ints -/
theorem z_copy {rc : ZRC} {Y : ZY} {kc ks pc : Nat} {L : ZL} {S : List ZV} {h : ZH} {Q : Option ZV → ZH → Prop} {idx o n0 : Nat} {f : Nat → Int} {i j x : Int} (sp dp n : Nat) (hd : decode (zyC Y) pc = .ok (.invokestatic idx, 3)) (hml : Cond.methodLink (zyN Y).cls idx arraycopyName ∈ zTB) (h1 : Cond.native arraycopyName ∈ zTB) (h2 : Cond.static arraycopyName ∈ zTB) (h3 : Cond.initialized "java/lang/System" ∈ zTB) (hlv : 1 ≤ zyD Y) (hroom : (S.map zcat).sum ≤ 8) (hh : h[o]? = some (zA n0 f)) (hi : i = (sp : Int)) (hj : j = (dp : Int)) (hx : x = (n : Int)) (hs1 : sp + n ≤ n0) (hs2 : dp + n ≤ n0) (hn0 : n0 ≤ 100000)
    (k : Z rc Y kc ks (pc + 3) L S (h.set o (zA n0 (zcpy f f sp dp n))) Q) : Z rc Y kc ks pc L (zI x :: zI j :: zR o :: zI i :: zR o :: S) h Q := by
  intro p l e R s m args below meth c D A ro ads0 Qm H locs more ls st hc hr hw hl hs
  obtain ⟨st0, rfl, hsa⟩ := zs_I hs
  obtain ⟨st1, rfl, hsb⟩ := zs_I hsa
  obtain ⟨a, st2, ha, rfl, hsc⟩ := zs_R hsb
  obtain ⟨st3, rfl, hsd⟩ := zs_I hsc
  obtain ⟨a2, st4, ha2, rfl, hse⟩ := zs_R hsd
  have e12 : a2 = a := Option.some.inj (ha2.symm.trans ha)
  subst e12
  obtain ⟨ws, tys, hKw, hP, hD, hS, hads, hH⟩ := hw
  have hts := hc.2.2.2.2.2.2.2.1
  obtain ⟨r1, r2, r3, r4⟩ := hc.2.2.2.2.2.2.2.2.2.2
  obtain ⟨⟨a', e'⟩, hq, cA, t0, ht, he⟩ := hH.2 o _ hh
  have hae : a2 = a' := zads (hads ▸ ha) hq
  subst hae
  dsimp only at he
  subst he
  have cl : ∀ (z : Int) (w : Nat), z = (w : Int) → w ≤ 100000 → ¬ Int32.ofInt z < 0 ∧ (Int32.ofInt z).toNatClampNeg = w := by
    intro z w hz hw
    subst hz
    have hz : zin (w : Int) := ⟨by omega, by omega⟩
    refine ⟨by rw [z_zero, z_lt hz (by decide)]; omega, ?_⟩
    unfold Int32.toNatClampNeg
    rw [zin_toInt hz]
    simp
  obtain ⟨i1, i2⟩ := cl i sp hi (by omega)
  obtain ⟨j1, j2⟩ := cl j dp hj (by omega)
  obtain ⟨x1, x2⟩ := cl x n hx (by omega)
  refine va_copyi (ty := .int) hc.1 hc.2.1 (hc.2.2.1.trans hl.1.1.symm) hc.2.2.2.2.2.1 (hts _ hml) (hts _ h1) (hts _ h2) (hts _ h3) hKw hP hD hS o o t0 t0 hq hq ht ht rfl i1 j1 x1 (by rw [i2, x2]; exact hs1) (by rw [j2, x2]; exact hs2) (fun _ _ => rfl) (Nat.le_trans hlv r1) ?_ hd (fun H1 locs1 hP1 hD1 hS1 => ?_)
  · rw [zs_cats S st4 hse]
    have e0 : nativeFrameWords "java/lang/System" "arraycopy" 5 + 11 ≤ 26 := by decide
    omega
  · rw [i2, j2, x2] at hP1 hD1
    have ec : va_cpy (fun j => Int32.ofInt (f j)) (fun j => Int32.ofInt (f j)) sp dp n = fun j => Int32.ofInt (zcpy f f sp dp n j) := by
      funext q
      unfold va_cpy zcpy
      split <;> rfl
    exact k hc hr ⟨_, tys, hKw, hP1, hD1, hS1, by rw [zads_set hq, hads], zHR_set hH hq ⟨cA, t0, ht, by rw [ec]⟩⟩ hl hse
/-- instanceof -/
theorem z_inst {rc : ZRC} {Y : ZY} {kc ks pc : Nat} {L : ZL} {S : List ZV} {h : ZH} {Q : Option ZV → ZH → Prop} {idx o ci : Nat} {fs : List ZV} (C nm : String) (v : Int) (hd : decode (zyC Y) pc = .ok (.instanceof idx, 3)) (hcl : Cond.classLink (zyN Y).cls idx nm ∈ zTB) (hci : (vwCl[ci]?).map (·.1) = some C) (hh : h[o]? = some (zO ci fs)) (hv : (v = 1 ∧ (C, nm) ∈ zcs) ∨ (v = 1 ∧ C = nm) ∨ (v = 0 ∧ (C, nm) ∈ znc)) (k : Z rc Y kc ks (pc + 3) L (zI v :: S) h Q) : Z rc Y kc ks pc L (zR o :: S) h Q := by
  intro p l e R s m args below meth c D A ro ads0 Qm H locs more ls st hc hr hw hl hs
  obtain ⟨a, rest, ha, rfl, hrest⟩ := zs_R hs
  have hw0 := hw
  obtain ⟨ws, tys, hKw, hP, hD, hS, hads, hH⟩ := hw
  have hts := hc.2.2.2.2.2.2.2.1
  have hRO := hc.2.2.2.2.2.2.2.2.2.1
  obtain ⟨⟨a', e'⟩, hq, fs', he, hfs⟩ := hH.2 o _ hh
  have hae : a = a' := zads (hads ▸ ha) hq
  subst hae
  dsimp only at he
  subst he
  obtain ⟨⟨C', T, N⟩, hcl2, hC⟩ := Option.map_eq_some_iff.mp hci
  have hrecv := va_recv hKw hP hcl2 hq
  have hat := (hKw.1 ci _ hcl2).2
  dsimp only at hC hrecv hat
  subst hC
  rcases hv with ⟨rfl, h1⟩ | ⟨rfl, rfl⟩ | ⟨rfl, h1⟩
  · exact va_instY hc.1 hc.2.1 hc.2.2.2.2.2.1 (hts _ hcl) (hRO.2.2.2.1 _ h1) hrecv hd (k hc hr hw0 hl (zs_push rfl hrest))
  · exact va_instS hc.1 hc.2.1 hc.2.2.2.2.2.1 (hts _ hcl) hat hrecv hd (k hc hr hw0 hl (zs_push rfl hrest))
  · exact va_instNo hc.1 hc.2.1 hc.2.2.2.2.2.1 (hts _ hcl) (hRO.2.2.2.2 _ h1) hrecv hd (k hc hr hw0 hl (zs_push rfl hrest))
