theorem Met_ofWF {l : Launch} {y : MethodName} {ws ws' : List Cond} {rm : Room} {Pc : Array Value → State → Prop} {Qc : Array Value → State → Outcome → State → Prop} {mc ms : Nat} {free : Addr → Prop} {cc : ByteArray} {maxL : Nat} {ret : Option FieldType}
    (hy : plainFor y = true) (hw : ws = Cond.code y cc maxL ret :: ws')
    (body : ∀ p e s m args below meth c s₁, BodyLoose p l y (headSpec ws rm) cc maxL ret e s m args below meth c s₁ → c.maxLocals = maxL → Pc args s →
      W p l e (headSpec ws rm).room s m args below meth c s.heap [] 0 0 (MQ below Qc args s mc ms free) (entryFrame m args maxL)) : Met l y ws rm Pc Qc mc ms free := by
  refine MetFree.of_bodySF (code := cc) (maxLocals := maxL) (ret := ret) hy ?_ ?_
  · intro args s m h hn
    obtain ⟨meth, c, h1, h2, h3, h4, h5, h6, -, -⟩ := Cond.code_spec hn (atoms_spec (ws := ws) h _ (by rw [hw]; exact List.mem_cons_self))
    exact ⟨meth, c, h1, h2, h3, h4, h5, h6⟩
  · intro p e s m args below meth c s₁ B hml hP _
    have hh0 : s₁.heap = s.heap := by rw [B.state]; rfl
    obtain ⟨t, a1, o, b1, b2, b3⟩ := body p e s m args below meth c s₁ B hml hP s₁ hh0 (Stand.of_body B)
    exact ⟨t, o, a1, b1, b2, ⟨b3.1, b3.2⟩⟩
theorem K_ofF {rc : ZRC} {Y : ZY} {av : List ZV} {h : ZH} {Q : Option ZV → ZH → Prop} (n : Nat) (hp : plainFor (zyN Y) = true) (hn : (zent av).length ≤ zyL Y) (hz : Z rc Y 0 0 0 (zent av ++ List.replicate n none) [] h Q) : K rc Y av h Q := by
  intro l D ro ws tys vs sz hH hav
  refine Met_ofWF (cc := zyC Y) (maxL := zyL Y) (ret := zyR Y) hp rfl ?_
  intro p e s m args below meth c s₁ B hml hv
  obtain ⟨rfl, hsz, hP, hK, hD0, hRO⟩ := hv
  subst hsz
  have hts := atoms_spec (ws := zWs Y) B.pre
  have hlocks := B.notSynchronized
  rw [lg_entry_eq]
  have hcx : zCx rc Y p (headSpec (zWs Y) (zRm Y)).room s m vs.toArray meth c (va_A ws s.heap.size) ro := ⟨B.exec, B.bytes, hml, B.returns, B.notSynchronized, findClass_of_methodNamed B.named, fun hi => (name_of_methodNamed B.named B.method).1.trans hi, fun w hw => hts w (List.mem_cons_of_mem _ hw), fun q hq => Or.inr hq, hRO, ⟨Nat.le_refl _, Nat.le_refl _, Nat.le_refl _, Nat.le_refl _⟩⟩
  refine hz (ads0 := ws.map (·.1)) (more := []) hcx ?_ ⟨ws, tys, hK, hP, hD0.self, va_S.rf, by simp, hH⟩ (by rw [List.append_nil]; exact zLR_entry hav hn n) rfl
  intro pc H locs more ls st r h' hq hwd hst hrd
  obtain ⟨ws', tys', hK', hP', hD', hS', hads', hH'⟩ := hwd
  have fin : ∀ (v : Option Value), r.toList.map (zv (ws.map (·.1) ++ more) ro) = v.toList.map some → ∀ t : State, t.heap = H → s.WarmedH t.vm → zQ D ro ws s.heap.size Q vs.toArray s (.returned v) t := fun v hv t ht hW => ⟨⟨r, v, h', ws', tys', more, rfl, hq, by rw [ht]; exact hP', va_K.moved hW.alike hK', hD', hads', hH', hv⟩, hS'.F ht⟩
  have hx := B.exec
  have hb := B.bytes
  have hrr := B.returns
  rcases hrd with ⟨h1, rfl, h3⟩ | ⟨z, rfl, h3, h4⟩ | ⟨k, rfl, h3, n, h4⟩
  · have hst2 := zs_nil hst
    subst hst2
    exact W.vret hx hb (hrr.trans h1) (fin none hst) hS'.2.2 h3
  · obtain ⟨st', rfl, hs2⟩ := zs_I hst
    have hst2 := zs_nil hs2
    subst hst2
    rcases h4 with h4 | ⟨h4, h5⟩
    · exact W.iret hx hb (hrr.trans h4) (fin (some (.int (Int32.ofInt z))) hst) hS'.2.2 h3
    · exact W.zret hx hb (hrr.trans h4) (by rcases h5 with rfl | rfl <;> rfl) (fin (some (.int (Int32.ofInt z))) hst) hS'.2.2 h3
  · obtain ⟨a, st', ha, rfl, hs2⟩ := zs_R hst
    have hst2 := zs_nil hs2
    subst hst2
    exact W.aret hx hb (hrr.trans h4) (Or.inl ⟨n, rfl⟩) (Or.inr ⟨a, rfl⟩) (fin (some (.ref a)) hst) hS'.2.2 h3
theorem pf_J9_min_7cf53 : plainFor (zyN M_J9_min_7cf53) = true := by decide +kernel
theorem pf_J9_max_7cf53 : plainFor (zyN M_J9_max_7cf53) = true := by decide +kernel
theorem zts {P : Prop} {a b : Int} (h : a = b) (k : b = b → P) : P := k rfl
theorem zc_var (q : Nat) : ((q : Nat) : Int) = ((q : Nat) : Int) := rfl
