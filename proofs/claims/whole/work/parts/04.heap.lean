/-! heap rows -/
/-- field k of class number ci, by its link in class own -/
def zFL (own : String) (idx ci k : Nat) : Prop := ∃ (C : String) (T : u_T) (N : Nat), vwCl[ci]? = some (C, T, N) ∧ k < N ∧ Cond.fieldLink own idx (T k).1 (T k).2.1 (T k).2.2.1 ∈ zTB ∧ (∀ w ∈ u_ws C T N, w ∈ zTB)
/-- and what a store wants to know -/
def zFP (own : String) (idx ci k : Nat) (ty : FieldType) (fin : Bool) : Prop := ∃ (C : String) (T : u_T) (N : Nat) (ty0 : Nat → FieldType), vwCl[ci]? = some (C, T, N) ∧ k < N ∧ Cond.fieldLink own idx (T k).1 (T k).2.1 (T k).2.2.1 ∈ zTB ∧ (∀ w ∈ u_ws C T N, w ∈ zTB) ∧
  (∀ k, k < N → parseFieldDescriptor (T k).2.2.1 = some (ty0 k)) ∧ (∀ a, a < N → ∀ b, b < N → a ≠ b → (T a).2.1 ≠ (T b).2.1) ∧ (T k).2.2.2 = fin ∧ parseFieldDescriptor (T k).2.2.1 = some ty ∧ (fin = true → (T k).1 = own)
theorem zads {ws : va_W} {o a : Nat} {q : Nat × va_E} (h : (ws.map (·.1))[o]? = some a) (hq : ws[o]? = some q) : a = q.1 := by
  rw [List.getElem?_map, hq] at h
  exact (Option.some.inj h).symm
theorem z_getf {rc : ZRC} {Y : ZY} {kc ks pc : Nat} {L : ZL} {S : List ZV} {h : ZH} {Q : Option ZV → ZH → Prop} {idx ci k o : Nat} {fs : List ZV} {v : ZV} (hd : decode (zyC Y) pc = .ok (.getfield idx, 3)) (hf : zFL (zyN Y).cls idx ci k) (hh : h[o]? = some (zO ci fs)) (hv : fs[k]? = some v) (kk : Z rc Y kc ks (pc + 3) L (v :: S) h Q) : Z rc Y kc ks pc L (zR o :: S) h Q := by
  intro p l e R s m args below meth c D A ro ads0 Qm H locs more ls st hc hr hw hl hs
  obtain ⟨a, st1, ha, rfl, hs1⟩ := zs_R hs
  have hw0 := hw
  obtain ⟨ws, tys, hK, hP, hD, hS, hads, hH⟩ := hw
  obtain ⟨C, T, N, h1, h2, h3, h4⟩ := hf
  obtain ⟨⟨a', e'⟩, hq, fs', he, hfs⟩ := hH.2 o _ hh
  have hae : a = a' := zads (hads ▸ ha) hq
  subst hae
  dsimp only at he
  subst he
  obtain ⟨w, hw1, hw2⟩ := zs_at hfs hv
  exact va_get hc.1 hc.2.1 hc.2.2.2.2.2.2.2.1 h4 hc.2.2.2.2.2.1 hK hP o hq h1 k h2 (hc.2.2.2.2.2.2.2.1 _ h3) (fun _ x => x) hw1 hd (kk hc hr hw0 hl (zs_push (hads ▸ hw2) hs1))
theorem z_putf {rc : ZRC} {Y : ZY} {kc ks pc : Nat} {L : ZL} {S : List ZV} {h : ZH} {Q : Option ZV → ZH → Prop} {idx ci k o : Nat} {fs : List ZV} {z : Int} {ty : FieldType} (hd : decode (zyC Y) pc = .ok (.putfield idx, 3)) (hf : zFP (zyN Y).cls idx ci k ty false) (hty : ty = .int ∨ (ty = .boolean ∧ (z = 0 ∨ z = 1))) (hh : h[o]? = some (zO ci fs)) (hk : k < fs.length) (kk : Z rc Y kc ks (pc + 3) L S (h.set o (zO ci (fs.set k (zI z)))) Q) : Z rc Y kc ks pc L (zI z :: zR o :: S) h Q := by
  intro p l e R s m args below meth c D A ro ads0 Qm H locs more ls st hc hr hw hl hs
  obtain ⟨st0, rfl, hs0⟩ := zs_I hs
  obtain ⟨a, st1, ha, rfl, hs1⟩ := zs_R hs0
  obtain ⟨ws, tys, hK, hP, hD, hS, hads, hH⟩ := hw
  obtain ⟨C, T, N, ty0, h1, h2, h3, h4, h5, h6, h7, h8, -⟩ := hf
  obtain ⟨⟨a', e'⟩, hq, fs', he, hfs⟩ := hH.2 o _ hh
  have hae : a = a' := zads (hads ▸ ha) hq
  subst hae
  dsimp only at he
  subst he
  have hn : narrow ty (.int (Int32.ofInt z)) = .int (Int32.ofInt z) ∧ fits ty (.int (Int32.ofInt z)) = true := by
    rcases hty with rfl | ⟨rfl, rfl | rfl⟩
    · exact ⟨rfl, rfl⟩
    · exact ⟨rfl, by decide⟩
    · exact ⟨rfl, by decide⟩
  refine va_put hc.1 hc.2.1 hc.2.2.2.2.2.2.2.1 h4 ty0 h5 h6 hc.2.2.2.2.2.1 hK hP hD hS o hq h1 k h2 (hc.2.2.2.2.2.2.2.1 _ h3) (fun _ x => x) h7 h8 hn.1 hn.2 (by rw [← zs_len hfs]; exact hk) hd (fun H1 locs1 hP1 hD1 hS1 => ?_)
  exact kk hc hr ⟨_, tys, hK, hP1, hD1, hS1, by rw [zads_set hq, hads], zHR_set hH hq ⟨_, rfl, zs_set hfs k rfl⟩⟩ hl hs1
/-- a final field, in the object's own constructor: a reference to a cell -/
theorem z_putF {rc : ZRC} {Y : ZY} {kc ks pc : Nat} {L : ZL} {S : List ZV} {h : ZH} {Q : Option ZV → ZH → Prop} {idx ci k o o2 : Nat} {fs : List ZV} {ty : FieldType} (hd : decode (zyC Y) pc = .ok (.putfield idx, 3)) (hf : zFP (zyN Y).cls idx ci k ty true) (hY : (zyN Y).name = "<init>") (hty : (∃ n, ty = .object n) ∨ ∃ t, ty = .array t) (hh : h[o]? = some (zO ci fs)) (hk : k < fs.length) (kk : Z rc Y kc ks (pc + 3) L S (h.set o (zO ci (fs.set k (zR o2)))) Q) : Z rc Y kc ks pc L (zR o2 :: zR o :: S) h Q := by
  intro p l e R s m args below meth c D A ro ads0 Qm H locs more ls st hc hr hw hl hs
  obtain ⟨a2, st0, ha2, rfl, hs0⟩ := zs_R hs
  obtain ⟨a, st1, ha, rfl, hs1⟩ := zs_R hs0
  obtain ⟨ws, tys, hK, hP, hD, hS, hads, hH⟩ := hw
  obtain ⟨C, T, N, ty0, h1, h2, h3, h4, h5, h6, h7, h8, h9⟩ := hf
  obtain ⟨⟨a', e'⟩, hq, fs', he, hfs⟩ := hH.2 o _ hh
  have hae : a = a' := zads (hads ▸ ha) hq
  subst hae
  dsimp only at he
  subst he
  have hn : narrow ty (.ref a2) = .ref a2 ∧ fits ty (.ref a2) = true := by
    rcases hty with ⟨n, rfl⟩ | ⟨t, rfl⟩
    · exact ⟨rfl, rfl⟩
    · exact ⟨rfl, rfl⟩
  refine va_putF hc.1 hc.2.1 hc.2.2.2.2.2.2.2.1 h4 ty0 h5 h6 hc.2.2.2.2.2.1 hK hP hD hS o hq h1 k h2 (hc.2.2.2.2.2.2.2.1 _ h3) (fun _ x => x) h7 (hc.2.2.2.2.2.2.1 hY) (h9 rfl) h8 hn.1 hn.2 (by rw [← zs_len hfs]; exact hk) hd (fun H1 locs1 hP1 hD1 hS1 => ?_)
  exact kk hc hr ⟨_, tys, hK, hP1, hD1, hS1, by rw [zads_set hq, hads], zHR_set hH hq ⟨_, rfl, zs_set hfs k (by rw [hads]; simp [zv, ha2])⟩⟩ hl hs1
theorem zvp {i : Int} {j n : Nat} (hi : i = (j : Int)) (hj : j < n) (hn : n ≤ 2147483647) : vp_in (Int32.ofInt i) n ∧ (Int32.ofInt i).toNatClampNeg = j := by
  subst hi
  have hz : zin (j : Int) := ⟨by omega, by omega⟩
  refine ⟨vp_in_iff.mpr ⟨by rw [zin_toInt hz]; omega, by rw [zin_toInt hz]; omega⟩, ?_⟩
  unfold Int32.toNatClampNeg
  rw [zin_toInt hz]
  simp
theorem z_iald {rc : ZRC} {Y : ZY} {kc ks pc : Nat} {L : ZL} {S : List ZV} {h : ZH} {Q : Option ZV → ZH → Prop} {o n : Nat} {i : Int} {f : Nat → Int} (j : Nat) (hd : decode (zyC Y) pc = .ok (.iaload, 1)) (hh : h[o]? = some (zA n f)) (hi : i = (j : Int)) (hj : j < n) (hn : n ≤ 2147483647) (kk : Z rc Y kc ks (pc + 1) L (zI (f j) :: S) h Q) : Z rc Y kc ks pc L (zI i :: zR o :: S) h Q := by
  intro p l e R s m args below meth c D A ro ads0 Qm H locs more ls st hc hr hw hl hs
  obtain ⟨st0, rfl, hs0⟩ := zs_I hs
  obtain ⟨a, st1, ha, rfl, hs1⟩ := zs_R hs0
  have hw0 := hw
  obtain ⟨ws, tys, hK, hP, hD, hS, hads, hH⟩ := hw
  obtain ⟨⟨a', e'⟩, hq, cA, t0, ht, he⟩ := hH.2 o _ hh
  have hae : a = a' := zads (hads ▸ ha) hq
  subst hae
  dsimp only at he
  subst he
  obtain ⟨h1, h2⟩ := zvp hi hj hn
  exact va_iald hc.1 hc.2.1 hK hP o t0 hq ht h1 hd (kk hc hr hw0 hl (zs_push (by rw [h2]; rfl) hs1))
theorem z_zald {rc : ZRC} {Y : ZY} {kc ks pc : Nat} {L : ZL} {S : List ZV} {h : ZH} {Q : Option ZV → ZH → Prop} {o n : Nat} {i : Int} {f : Nat → Int} (j : Nat) (hd : decode (zyC Y) pc = .ok (.baload, 1)) (hh : h[o]? = some (zB n f)) (hi : i = (j : Int)) (hj : j < n) (hn : n ≤ 2147483647) (kk : Z rc Y kc ks (pc + 1) L (zI (f j) :: S) h Q) : Z rc Y kc ks pc L (zI i :: zR o :: S) h Q := by
  intro p l e R s m args below meth c D A ro ads0 Qm H locs more ls st hc hr hw hl hs
  obtain ⟨st0, rfl, hs0⟩ := zs_I hs
  obtain ⟨a, st1, ha, rfl, hs1⟩ := zs_R hs0
  have hw0 := hw
  obtain ⟨ws, tys, hK, hP, hD, hS, hads, hH⟩ := hw
  obtain ⟨⟨a', e'⟩, hq, cA, t0, ht, he⟩ := hH.2 o _ hh
  have hae : a = a' := zads (hads ▸ ha) hq
  subst hae
  dsimp only at he
  subst he
  obtain ⟨h1, h2⟩ := zvp hi hj hn
  exact va_zald hc.1 hc.2.1 hK hP o t0 hq ht h1 hd (kk hc hr hw0 hl (zs_push (by rw [h2]; rfl) hs1))
def zup (f : Nat → Int) (k : Nat) (x : Int) : Nat → Int := fun j => if j = k then x else f j
theorem zup_upd (f : Nat → Int) (k : Nat) (x : Int) : upd (fun j => Int32.ofInt (f j)) k (Int32.ofInt x) = fun j => Int32.ofInt (zup f k x j) := by
  funext j
  unfold upd zup
  split <;> rfl
theorem z_iast {rc : ZRC} {Y : ZY} {kc ks pc : Nat} {L : ZL} {S : List ZV} {h : ZH} {Q : Option ZV → ZH → Prop} {o n : Nat} {i x : Int} {f : Nat → Int} (j : Nat) (hd : decode (zyC Y) pc = .ok (.iastore, 1)) (hh : h[o]? = some (zA n f)) (hi : i = (j : Int)) (hj : j < n) (hn : n ≤ 2147483647) (kk : Z rc Y kc ks (pc + 1) L S (h.set o (zA n (zup f j x))) Q) : Z rc Y kc ks pc L (zI x :: zI i :: zR o :: S) h Q := by
  intro p l e R s m args below meth c D A ro ads0 Qm H locs more ls st hc hr hw hl hs
  obtain ⟨st0, rfl, hs0⟩ := zs_I hs
  obtain ⟨st1, rfl, hs1⟩ := zs_I hs0
  obtain ⟨a, st2, ha, rfl, hs2⟩ := zs_R hs1
  obtain ⟨ws, tys, hK, hP, hD, hS, hads, hH⟩ := hw
  obtain ⟨⟨a', e'⟩, hq, cA, t0, ht, he⟩ := hH.2 o _ hh
  have hae : a = a' := zads (hads ▸ ha) hq
  subst hae
  dsimp only at he
  subst he
  obtain ⟨h1, h2⟩ := zvp hi hj hn
  refine va_iast hc.1 hc.2.1 hK hP hD hS o t0 hq ht h1 hd (fun H1 locs1 hP1 hD1 hS1 => ?_)
  exact kk hc hr ⟨_, tys, hK, hP1, hD1, hS1, by rw [zads_set hq, hads], zHR_set hH hq ⟨cA, t0, ht, by rw [h2, zup_upd]⟩⟩ hl hs2
theorem z_zast {rc : ZRC} {Y : ZY} {kc ks pc : Nat} {L : ZL} {S : List ZV} {h : ZH} {Q : Option ZV → ZH → Prop} {o n : Nat} {i x : Int} {f : Nat → Int} (j : Nat) (hd : decode (zyC Y) pc = .ok (.bastore, 1)) (hh : h[o]? = some (zB n f)) (hi : i = (j : Int)) (hj : j < n) (hn : n ≤ 2147483647) (hx : x = 0 ∨ x = 1) (kk : Z rc Y kc ks (pc + 1) L S (h.set o (zB n (zup f j x))) Q) : Z rc Y kc ks pc L (zI x :: zI i :: zR o :: S) h Q := by
  intro p l e R s m args below meth c D A ro ads0 Qm H locs more ls st hc hr hw hl hs
  obtain ⟨st0, rfl, hs0⟩ := zs_I hs
  obtain ⟨st1, rfl, hs1⟩ := zs_I hs0
  obtain ⟨a, st2, ha, rfl, hs2⟩ := zs_R hs1
  obtain ⟨ws, tys, hK, hP, hD, hS, hads, hH⟩ := hw
  obtain ⟨⟨a', e'⟩, hq, cA, t0, ht, he⟩ := hH.2 o _ hh
  have hae : a = a' := zads (hads ▸ ha) hq
  subst hae
  dsimp only at he
  subst he
  obtain ⟨h1, h2⟩ := zvp hi hj hn
  have hx2 : vp_nar .boolean (Int32.ofInt x) = Int32.ofInt x := by rcases hx with rfl | rfl <;> decide
  refine va_zast hc.1 hc.2.1 hK hP hD hS o t0 hq ht h1 hd (fun H1 locs1 hP1 hD1 hS1 => ?_)
  exact kk hc hr ⟨_, tys, hK, hP1, hD1, hS1, by rw [zads_set hq, hads], zHR_set hH hq ⟨cA, t0, ht, by rw [h2, hx2, zup_upd]⟩⟩ hl hs2
/-- the read-only arrays: the statics and the script -/
theorem z_ialdT {rc : ZRC} {Y : ZY} {kc ks pc : Nat} {L : ZL} {S : List ZV} {h : ZH} {Q : Option ZV → ZH → Prop} {o n : Nat} {i : Int} {f : Nat → Int} (j : Nat) (hd : decode (zyC Y) pc = .ok (.iaload, 1)) (hh : rc o = some (n, f)) (hi : i = (j : Int)) (hj : j < n) (hn : n ≤ 2147483647) (kk : Z rc Y kc ks (pc + 1) L (zI (f j) :: S) h Q) : Z rc Y kc ks pc L (zI i :: zT o :: S) h Q := by
  intro p l e R s m args below meth c D A ro ads0 Qm H locs more ls st hc hr hw hl hs
  obtain ⟨st0, rfl, hs0⟩ := zs_I hs
  obtain ⟨st1, rfl, hs1⟩ := zs_T hs0
  have hw0 := hw
  obtain ⟨ws, tys, hK, hP, hD, hS, hads, hH⟩ := hw
  obtain ⟨h1, h2⟩ := zvp hi hj hn
  have hRO : zRO rc A ro s := hc.2.2.2.2.2.2.2.2.2.1
  exact va_ti hc.1 hc.2.1 (hRO.1 o n f hh) hS h1 (v := .int (Int32.ofInt (f j))) (by rw [h2]) hd (kk hc hr hw0 hl (zs_push rfl hs1))
theorem z_alenT {rc : ZRC} {Y : ZY} {kc ks pc : Nat} {L : ZL} {S : List ZV} {h : ZH} {Q : Option ZV → ZH → Prop} {o n : Nat} {f : Nat → Int} (hd : decode (zyC Y) pc = .ok (.arraylength, 1)) (hh : rc o = some (n, f)) (kk : Z rc Y kc ks (pc + 1) L (zI (n : Int) :: S) h Q) : Z rc Y kc ks pc L (zT o :: S) h Q := by
  intro p l e R s m args below meth c D A ro ads0 Qm H locs more ls st hc hr hw hl hs
  obtain ⟨st1, rfl, hs1⟩ := zs_T hs
  have hw0 := hw
  obtain ⟨ws, tys, hK, hP, hD, hS, hads, hH⟩ := hw
  have hRO : zRO rc A ro s := hc.2.2.2.2.2.2.2.2.2.1
  exact va_tlen hc.1 hc.2.1 (hRO.1 o n f hh) hS (v := Int32.ofInt (n : Int)) Int32.ofInt_eq_ofNat.symm hd (kk hc hr hw0 hl (zs_push rfl hs1))
theorem z_gets {rc : ZRC} {Y : ZY} {kc ks pc : Nat} {L : ZL} {S : List ZV} {h : ZH} {Q : Option ZV → ZH → Prop} {idx : Nat} (j : Nat) {q : String × String} (hd : decode (zyC Y) pc = .ok (.getstatic idx, 3)) (hj : zst[j]? = some q) (hwd : Cond.fieldLink (zyN Y).cls idx q.1 q.2 "[I" ∈ zTB) (kk : Z rc Y kc ks (pc + 3) L (zT j :: S) h Q) : Z rc Y kc ks pc L S h Q := by
  intro p l e R s m args below meth c D A ro ads0 Qm H locs more ls st hc hr hw hl hs
  have hw0 := hw
  obtain ⟨ws, tys, hK, hP, hD, hS, hads, hH⟩ := hw
  have hRO : zRO rc A ro s := hc.2.2.2.2.2.2.2.2.2.1
  exact va_gets hc.1 hc.2.1 (hRO.2.1 j q hj) hS hc.2.2.2.2.2.1 (hc.2.2.2.2.2.2.2.1 _ hwd) (fun _ x => x) hd (kk hc hr hw0 hl (zs_push rfl hs))
theorem z_new {rc : ZRC} {Y : ZY} {kc ks pc : Nat} {L : ZL} {S : List ZV} {h : ZH} {Q : Option ZV → ZH → Prop} {idx ci : Nat} (C : String) (T : u_T) (N : Nat) (ty : Nat → FieldType) (fs : List ZV) (hd : decode (zyC Y) pc = .ok (.new idx, 3)) (hci : vwCl[ci]? = some (C, T, N)) (hin : ∀ w ∈ u_ws C T N, w ∈ zTB) (hty : ∀ k, k < N → parseFieldDescriptor (T k).2.2.1 = some (ty k))
    (hl1 : Cond.classLink (zyN Y).cls idx C ∈ zTB) (hl2 : Cond.instantiable C N ∈ zTB) (hl3 : Cond.initialized C ∈ zTB) (hfs : (List.range N).map (fun j => some (defaultValue (ty j))) = fs.map (zv [] (fun _ => 0))) (hm : kc + 1 ≤ zyMc Y) (hms : ks + N ≤ zyMs Y) (kk : Z rc Y (kc + 1) (ks + N) (pc + 3) L (zR h.length :: S) (h ++ [zO ci fs]) Q) : Z rc Y kc ks pc L S h Q := by
  intro p l e R s m args below meth c D A ro ads0 Qm H locs more ls st hc hr hw hl hs
  obtain ⟨ws, tys, hK, hP, hD, hS, hads, hH⟩ := hw
  obtain ⟨r1, r2, r3, r4⟩ := hc.2.2.2.2.2.2.2.2.2.2
  refine va_new (fs := (List.range N).map (fun j => defaultValue (ty j))) hc.1 hc.2.1 hc.2.2.2.2.2.2.2.1 hin ty hty hc.2.2.2.2.2.1 (hc.2.2.2.2.2.2.2.1 _ hl1) (hc.2.2.2.2.2.2.2.1 _ hl2) (hc.2.2.2.2.2.2.2.1 _ hl3) hK hP hD hS hc.2.2.2.2.2.2.2.2.1 hci (fun j hj => ?_) (Nat.le_trans hm r3) (Nat.le_trans hms r4) hd (fun q H1 hP1 hD1 hS1 => ?_)
  · simp [vp_V, hj]
  · have hfs2 : ∀ (ads : List Nat) (ro : Nat → Nat), fs.map (zv ads ro) = ((List.range N).map (fun j => defaultValue (ty j))).map some := by
      intro ads ro
      rw [List.map_map]
      have h1 : ∀ v ∈ fs, zv ads ro v = zv [] (fun _ => 0) v ∨ ∃ a : Nat, zv [] (fun _ => 0) v = some (.ref a) ∨ zv [] (fun _ => 0) v = none := by
        intro v _
        rcases v with z | z | k | k | u
        · exact Or.inl rfl
        · exact Or.inl rfl
        · exact Or.inr ⟨0, Or.inr rfl⟩
        · exact Or.inr ⟨0, Or.inl rfl⟩
        · exact Or.inl rfl
      have h2 : fs.map (zv ads ro) = fs.map (zv [] (fun _ => 0)) := by
        refine List.map_congr_left (fun v hv => ?_)
        rcases h1 v hv with h3 | ⟨a, h3⟩
        · exact h3
        · have h4 : zv [] (fun _ => 0) v ∈ (List.range N).map (fun j => some (defaultValue (ty j))) := by rw [hfs]; exact List.mem_map_of_mem hv
          obtain ⟨j, -, hj⟩ := List.mem_map.mp h4
          rcases h3 with h3 | h3
          · rw [h3] at hj
            have := Option.some.inj hj
            cases hx : ty j <;> rw [hx] at this <;> cases this
          · rw [h3] at hj; cases hj
      rw [h2, ← hfs]
      rfl
    have e1 : ads0 ++ (more ++ [q]) = (ads0 ++ more) ++ [q] := (List.append_assoc _ _ _).symm
    have hlen : (ads0 ++ more).length = h.length := by rw [← hads, List.length_map]; exact hH.1
    refine kk (more := more ++ [q]) hc hr ⟨_, tys, hK, hP1, hD1, hS1, by rw [e1]; simp [hads], ?_⟩ (by rw [e1]; exact zLR_mono hl) ?_
    · have := zHR_push (tm := []) (q := q) (c := zO ci fs) (e := .inr (ci, (List.range N).map (fun j => defaultValue (ty j)))) hH ⟨_, rfl, hfs2 _ _⟩
      simpa using this
    · rw [e1]
      refine zs_push ?_ (zmap_mono hs)
      show ((ads0 ++ more ++ [q])[h.length]?).map Value.ref = _
      rw [← hlen]
      simp
theorem z_newa {rc : ZRC} {Y : ZY} {kc ks pc : Nat} {L : ZL} {S : List ZV} {h : ZH} {Q : Option ZV → ZH → Prop} {n : Int} {N : Nat} (b : Bool) (hd : decode (zyC Y) pc = .ok (.newarray (if b then .int else .boolean), 2)) (hwd : Cond.arrayClass (if b then FieldType.int else FieldType.boolean) ∈ zTB) (hn : n = (N : Int)) (hN : N ≤ 100000) (hm : kc + 1 ≤ zyMc Y) (hms : ks + N ≤ zyMs Y) (kk : Z rc Y (kc + 1) (ks + N) (pc + 2) L (zR h.length :: S) (h ++ [.inl (b, N, fun _ => 0)]) Q) : Z rc Y kc ks pc L (zI n :: S) h Q := by
  intro p l e R s m args below meth c D A ro ads0 Qm H locs more ls st hc hr hw hl hs
  obtain ⟨st1, rfl, hs1⟩ := zs_I hs
  obtain ⟨ws, tys, hK, hP, hD, hS, hads, hH⟩ := hw
  obtain ⟨r1, r2, r3, r4⟩ := hc.2.2.2.2.2.2.2.2.2.2
  subst hn
  have hz : zin (N : Int) := ⟨by omega, by omega⟩
  have hclamp : (Int32.ofInt (N : Int)).toNatClampNeg = N := by
    unfold Int32.toNatClampNeg
    rw [zin_toInt hz]
    simp
  have hneg : ¬ Int32.ofInt (N : Int) < 0 := by
    rw [z_zero, z_lt hz (by decide)]
    omega
  have e1 : ∀ q : Nat, ads0 ++ (more ++ [q]) = (ads0 ++ more) ++ [q] := fun q => (List.append_assoc _ _ _).symm
  have hlen : (ads0 ++ more).length = h.length := by rw [← hads, List.length_map]; exact hH.1
  have hfin : ∀ (q : Nat) (cA : ClassId) (H1 : Heap), va_K D vwCl (tys ++ [(cA, if b then FieldType.int else FieldType.boolean)]) s → va_P D vwCl (ws ++ [(q, .inl (cA, N, .inl (fun _ => (0 : Int32))))]) H1 → va_D A (ws ++ [(q, .inl (cA, N, .inl (fun _ => (0 : Int32))))]) → va_S A s.heap H1 locs → W p l e R s m args below meth c H1 locs (kc + 1) (ks + N) Qm (F0 m (pc + 2) ls (.ref q :: st1)) := by
    intro q cA H1 hK1 hP1 hD1 hS1
    refine kk (more := more ++ [q]) hc hr ⟨_, _, hK1, hP1, hD1, hS1, by rw [e1]; simp [hads], zHR_push hH ⟨cA, tys.length, by simp, rfl⟩⟩ (by rw [e1]; exact zLR_mono hl) ?_
    rw [e1]
    refine zs_push ?_ (zmap_mono hs1)
    show ((ads0 ++ more ++ [q])[h.length]?).map Value.ref = _
    rw [← hlen]
    simp
  cases b with
  | true => exact va_newa (atype := .int) (ty := .int) (N' := N) (a0 := (N, .inl (fun _ => (0 : Int32)))) hc.1 hc.2.1 (hc.2.2.2.2.2.2.2.1 _ hwd) rfl hK hP hD hS hc.2.2.2.2.2.2.2.2.1 (fun cA => rfl) hneg hclamp (by show N * 4 ≤ _; omega) (Nat.le_trans hm r3) (Nat.le_trans hms r4) hd hfin
  | false => exact va_newa (atype := .boolean) (ty := .boolean) (N' := N) (a0 := (N, .inl (fun _ => (0 : Int32)))) hc.1 hc.2.1 (hc.2.2.2.2.2.2.2.1 _ hwd) rfl hK hP hD hS hc.2.2.2.2.2.2.2.2.1 (fun cA => rfl) hneg hclamp (by show N * 1 ≤ _; omega) (Nat.le_trans hm r3) (Nat.le_trans hms r4) hd hfin
