abbrev ZS : Type := (Bool × Nat) ⊕ (Nat × List (Option Nat))
/-- the shape of every object of the system, by its number -/
def zsh : List ZS := [
  .inr (10, [some 1, some 5, some 8, some 13, some 18, some 23, some 28, some 30, some 32, some 33, some 34, some 35, some 36, some 37, some 38, some 39, none, none]),
  .inr (6, [some 2, some 3, some 4]),
  .inl (true, 8),
  .inl (true, 8),
  .inl (true, 320),
  .inr (8, [some 6, some 7, none, none, none]),
  .inl (true, 100),
  .inl (true, 5),
  .inr (2, [some 9, some 10, some 11, some 12, none, none, none, none, none, none, none, none, none]),
  .inl (true, 5),
  .inl (true, 5),
  .inl (true, 5),
  .inl (true, 5),
  .inr (2, [some 14, some 15, some 16, some 17, none, none, none, none, none, none, none, none, none]),
  .inl (true, 5),
  .inl (true, 5),
  .inl (true, 5),
  .inl (true, 5),
  .inr (2, [some 19, some 20, some 21, some 22, none, none, none, none, none, none, none, none, none]),
  .inl (true, 5),
  .inl (true, 5),
  .inl (true, 5),
  .inl (true, 5),
  .inr (2, [some 24, some 25, some 26, some 27, none, none, none, none, none, none, none, none, none]),
  .inl (true, 5),
  .inl (true, 5),
  .inl (true, 5),
  .inl (true, 5),
  .inr (4, [some 29, none, none]),
  .inl (true, 312),
  .inr (0, [some 31, none, none, none, none]),
  .inl (true, 16),
  .inr (3, []),
  .inr (1, []),
  .inr (7, []),
  .inr (9, []),
  .inr (5, []),
  .inl (true, 50),
  .inl (true, 60),
  .inl (true, 5),
  .inr (11, [some 41, some 42, some 43, none, none, some 44, none, none, none, none, none, none, some 45, some 46, some 47, some 48, some 49, some 50, none, some 51, none, some 52, some 53, some 54, none, none]),
  .inl (true, 8),
  .inl (true, 8),
  .inl (true, 320),
  .inl (true, 100),
  .inl (true, 29),
  .inl (true, 29),
  .inl (true, 29),
  .inl (true, 58),
  .inl (false, 2),
  .inl (true, 696),
  .inl (true, 16),
  .inl (true, 16),
  .inl (true, 5),
  .inl (true, 5)]
abbrev Mem : Type := Nat → Nat → Int
def zfs : List (Option Nat) → Nat → (Nat → Int) → List ZV
  | [], _, _ => []
  | some k :: rs, j, f => zR k :: zfs rs (j + 1) f
  | none :: rs, j, f => zI (f j) :: zfs rs (j + 1) f
def zcs0 (x : ZS) (f : Nat → Int) : ZC := match x with
  | .inl a => .inl (a.1, a.2, f)
  | .inr a => .inr (a.1, zfs a.2 0 f)
def zcell (o : Nat) (f : Nat → Int) : ZC := match zsh[o]? with
  | some x => zcs0 x f
  | none => .inr (0, [])
def hp (σ : Mem) : ZH := (List.range 55).map fun o => zcell o (σ o)
/-- the memory with one place written -/
def zu (σ : Mem) (o j : Nat) (x : Int) : Mem := fun o' => if o' = o then zup (σ o) j x else σ o'
theorem zfs_int : ∀ (rs : List (Option Nat)) (j k : Nat) (f : Nat → Int), rs[k]? = some none → (zfs rs j f)[k]? = some (zI (f (j + k)))
  | [], j, k, f, h => by simp at h
  | r :: rs, j, 0, f, h => by
    simp at h
    subst h
    rfl
  | r :: rs, j, k + 1, f, h => by
    simp only [List.getElem?_cons_succ] at h
    have ih := zfs_int rs (j + 1) k f h
    rw [show j + (k + 1) = j + 1 + k by omega]
    cases r <;> exact ih
theorem zfs_ref : ∀ (rs : List (Option Nat)) (j k r : Nat) (f : Nat → Int), rs[k]? = some (some r) → (zfs rs j f)[k]? = some (zR r)
  | [], j, k, r, f, h => by simp at h
  | x :: rs, j, 0, r, f, h => by
    simp at h
    subst h
    rfl
  | x :: rs, j, k + 1, r, f, h => by
    simp only [List.getElem?_cons_succ] at h
    have ih := zfs_ref rs (j + 1) k r f h
    cases x <;> exact ih
theorem zfs_len : ∀ (rs : List (Option Nat)) (j : Nat) (f : Nat → Int), (zfs rs j f).length = rs.length
  | [], j, f => rfl
  | r :: rs, j, f => by
    cases r <;> simp [zfs, zfs_len rs]
theorem zfs_eq : ∀ (rs : List (Option Nat)) (j : Nat) (f g : Nat → Int), (∀ i, j ≤ i → f i = g i) → zfs rs j f = zfs rs j g
  | [], j, f, g, h => rfl
  | r :: rs, j, f, g, h => by
    have ih := zfs_eq rs (j + 1) f g (fun i hi => h i (by omega))
    cases r
    · simp [zfs, ih, h j (Nat.le_refl _)]
    · simp [zfs, ih]
theorem zfs_set : ∀ (rs : List (Option Nat)) (j k : Nat) (f : Nat → Int) (x : Int), rs[k]? = some none → (zfs rs j f).set k (zI x) = zfs rs j (zup f (j + k) x)
  | [], j, k, f, x, h => by simp at h
  | r :: rs, j, 0, f, x, h => by
    simp at h
    subst h
    have e : zfs rs (j + 1) f = zfs rs (j + 1) (zup f (j + 0) x) := zfs_eq rs (j + 1) _ _ (fun i hi => by
      unfold zup
      rw [if_neg (by omega)])
    show zI x :: zfs rs (j + 1) f = zI (zup f (j + 0) x j) :: zfs rs (j + 1) (zup f (j + 0) x)
    rw [← e]
    simp [zup]
  | r :: rs, j, k + 1, f, x, h => by
    simp only [List.getElem?_cons_succ] at h
    have ih := zfs_set rs (j + 1) k f x h
    rw [show j + (k + 1) = j + 1 + k by omega]
    cases r
    · show zI (f j) :: (zfs rs (j + 1) f).set k (zI x) = zI (zup f (j + 1 + k) x j) :: zfs rs (j + 1) (zup f (j + 1 + k) x)
      rw [ih]
      have e : zup f (j + 1 + k) x j = f j := by
        unfold zup
        rw [if_neg (by omega)]
      rw [e]
    · show zR _ :: (zfs rs (j + 1) f).set k (zI x) = zR _ :: zfs rs (j + 1) (zup f (j + 1 + k) x)
      rw [ih]
theorem zsh_lt {o : Nat} {x : ZS} (h : zsh[o]? = some x) : o < 55 := (List.getElem?_eq_some_iff.mp h).1
theorem hp_at {σ : Mem} {o : Nat} {x : ZS} (h : zsh[o]? = some x) : (hp σ)[o]? = some (zcs0 x (σ o)) := by
  have hl := zsh_lt h
  unfold hp
  rw [List.getElem?_map, List.getElem?_range hl]
  show some (zcell o (σ o)) = _
  unfold zcell
  rw [h]
theorem hp_set {σ : Mem} {o : Nat} {x : ZS} (f : Nat → Int) (h : zsh[o]? = some x) : (hp σ).set o (zcs0 x f) = hp (fun o' => if o' = o then f else σ o') := by
  have hl := zsh_lt h
  apply List.ext_getElem?
  intro i
  rw [List.getElem?_set]
  by_cases hi : o = i
  · subst hi
    have e : (hp (fun o' => if o' = o then f else σ o'))[o]? = some (zcs0 x f) := by
      rw [hp_at h]
      simp
    rw [e, if_pos rfl, if_pos (by simp [hp, hl])]
  · rw [if_neg hi]
    unfold hp
    rw [List.getElem?_map, List.getElem?_map]
    cases hr : (List.range 55)[i]? with
    | none => rfl
    | some y =>
      have hy : y = i := by
        have := List.getElem?_eq_some_iff.mp hr
        obtain ⟨h1, h2⟩ := this
        simp at h2
        omega
      subst hy
      show some (zcell y (σ y)) = some (zcell y (if y = o then f else σ y))
      rw [if_neg (Ne.symm hi)]
theorem h_geti {rc : ZRC} {Y : ZY} {kc ks pc : Nat} {L : ZL} {S : List ZV} {σ : Mem} {Q : Option ZV → ZH → Prop} {idx ci k o : Nat} {rs : List (Option Nat)} (hd : decode (zyC Y) pc = .ok (.getfield idx, 3)) (hf : zFL (zyN Y).cls idx ci k) (hs : zsh[o]? = some (.inr (ci, rs))) (hk : rs[k]? = some none) (kk : Z rc Y kc ks (pc + 3) L (zI (σ o k) :: S) (hp σ) Q) : Z rc Y kc ks pc L (zR o :: S) (hp σ) Q :=
  z_getf hd hf (hp_at hs) (by have := zfs_int rs 0 k (σ o) hk; rw [Nat.zero_add] at this; exact this) kk
theorem h_getr {rc : ZRC} {Y : ZY} {kc ks pc : Nat} {L : ZL} {S : List ZV} {σ : Mem} {Q : Option ZV → ZH → Prop} {idx ci k o r : Nat} {rs : List (Option Nat)} (hd : decode (zyC Y) pc = .ok (.getfield idx, 3)) (hf : zFL (zyN Y).cls idx ci k) (hs : zsh[o]? = some (.inr (ci, rs))) (hk : rs[k]? = some (some r)) (kk : Z rc Y kc ks (pc + 3) L (zR r :: S) (hp σ) Q) : Z rc Y kc ks pc L (zR o :: S) (hp σ) Q :=
  z_getf hd hf (hp_at hs) (zfs_ref rs 0 k r (σ o) hk) kk
theorem h_puti {rc : ZRC} {Y : ZY} {kc ks pc : Nat} {L : ZL} {S : List ZV} {σ : Mem} {Q : Option ZV → ZH → Prop} {idx ci k o : Nat} {z : Int} {rs : List (Option Nat)} (hd : decode (zyC Y) pc = .ok (.putfield idx, 3)) (hf : zFP (zyN Y).cls idx ci k .int false) (hs : zsh[o]? = some (.inr (ci, rs))) (hk : rs[k]? = some none) (kk : Z rc Y kc ks (pc + 3) L S (hp (zu σ o k z)) Q) : Z rc Y kc ks pc L (zI z :: zR o :: S) (hp σ) Q := by
  refine z_putf hd hf (Or.inl rfl) (hp_at hs) (by rw [zfs_len]; exact (List.getElem?_eq_some_iff.mp hk).1) ?_
  have e : (hp σ).set o (zO ci ((zfs rs 0 (σ o)).set k (zI z))) = hp (zu σ o k z) := by
    rw [zfs_set rs 0 k (σ o) z hk, Nat.zero_add]
    exact hp_set (zup (σ o) k z) hs
  rw [e]
  exact kk
theorem h_putz {rc : ZRC} {Y : ZY} {kc ks pc : Nat} {L : ZL} {S : List ZV} {σ : Mem} {Q : Option ZV → ZH → Prop} {idx ci k o : Nat} {z : Int} {rs : List (Option Nat)} (hd : decode (zyC Y) pc = .ok (.putfield idx, 3)) (hf : zFP (zyN Y).cls idx ci k .boolean false) (hz : z = 0 ∨ z = 1) (hs : zsh[o]? = some (.inr (ci, rs))) (hk : rs[k]? = some none) (kk : Z rc Y kc ks (pc + 3) L S (hp (zu σ o k z)) Q) : Z rc Y kc ks pc L (zI z :: zR o :: S) (hp σ) Q := by
  refine z_putf hd hf (Or.inr ⟨rfl, hz⟩) (hp_at hs) (by rw [zfs_len]; exact (List.getElem?_eq_some_iff.mp hk).1) ?_
  have e : (hp σ).set o (zO ci ((zfs rs 0 (σ o)).set k (zI z))) = hp (zu σ o k z) := by
    rw [zfs_set rs 0 k (σ o) z hk, Nat.zero_add]
    exact hp_set (zup (σ o) k z) hs
  rw [e]
  exact kk
theorem h_iald {rc : ZRC} {Y : ZY} {kc ks pc : Nat} {L : ZL} {S : List ZV} {σ : Mem} {Q : Option ZV → ZH → Prop} {o n j : Nat} {i : Int} (hd : decode (zyC Y) pc = .ok (.iaload, 1)) (hs : zsh[o]? = some (.inl (true, n))) (hi : i = (j : Int)) (hj : j < n) (hn : n ≤ 2147483647) (kk : Z rc Y kc ks (pc + 1) L (zI (σ o j) :: S) (hp σ) Q) : Z rc Y kc ks pc L (zI i :: zR o :: S) (hp σ) Q :=
  z_iald j hd (hp_at hs) hi hj hn kk
theorem h_zald {rc : ZRC} {Y : ZY} {kc ks pc : Nat} {L : ZL} {S : List ZV} {σ : Mem} {Q : Option ZV → ZH → Prop} {o n j : Nat} {i : Int} (hd : decode (zyC Y) pc = .ok (.baload, 1)) (hs : zsh[o]? = some (.inl (false, n))) (hi : i = (j : Int)) (hj : j < n) (hn : n ≤ 2147483647) (kk : Z rc Y kc ks (pc + 1) L (zI (σ o j) :: S) (hp σ) Q) : Z rc Y kc ks pc L (zI i :: zR o :: S) (hp σ) Q :=
  z_zald j hd (hp_at hs) hi hj hn kk
theorem h_iast {rc : ZRC} {Y : ZY} {kc ks pc : Nat} {L : ZL} {S : List ZV} {σ : Mem} {Q : Option ZV → ZH → Prop} {o n j : Nat} {i x : Int} (hd : decode (zyC Y) pc = .ok (.iastore, 1)) (hs : zsh[o]? = some (.inl (true, n))) (hi : i = (j : Int)) (hj : j < n) (hn : n ≤ 2147483647) (kk : Z rc Y kc ks (pc + 1) L S (hp (zu σ o j x)) Q) : Z rc Y kc ks pc L (zI x :: zI i :: zR o :: S) (hp σ) Q := by
  refine z_iast j hd (hp_at hs) hi hj hn ?_
  have e : (hp σ).set o (.inl (true, n, zup (σ o) j x)) = hp (zu σ o j x) := hp_set (zup (σ o) j x) hs
  rw [e]
  exact kk
theorem h_zast {rc : ZRC} {Y : ZY} {kc ks pc : Nat} {L : ZL} {S : List ZV} {σ : Mem} {Q : Option ZV → ZH → Prop} {o n j : Nat} {i x : Int} (hd : decode (zyC Y) pc = .ok (.bastore, 1)) (hs : zsh[o]? = some (.inl (false, n))) (hi : i = (j : Int)) (hj : j < n) (hn : n ≤ 2147483647) (hx : x = 0 ∨ x = 1) (kk : Z rc Y kc ks (pc + 1) L S (hp (zu σ o j x)) Q) : Z rc Y kc ks pc L (zI x :: zI i :: zR o :: S) (hp σ) Q := by
  refine z_zast j hd (hp_at hs) hi hj hn hx ?_
  have e : (hp σ).set o (.inl (false, n, zup (σ o) j x)) = hp (zu σ o j x) := hp_set (zup (σ o) j x) hs
  rw [e]
  exact kk
def zmv (σ : Mem) (o sp dp n : Nat) : Mem := fun o' => if o' = o then zcpy (σ o) (σ o) sp dp n else σ o'
theorem h_copy {rc : ZRC} {Y : ZY} {kc ks pc : Nat} {L : ZL} {S : List ZV} {σ : Mem} {Q : Option ZV → ZH → Prop} {idx o n0 : Nat} {i j x : Int} (sp dp n : Nat) (hd : decode (zyC Y) pc = .ok (.invokestatic idx, 3)) (hml : Cond.methodLink (zyN Y).cls idx arraycopyName ∈ zTB) (h1 : Cond.native arraycopyName ∈ zTB) (h2 : Cond.static arraycopyName ∈ zTB) (h3 : Cond.initialized "java/lang/System" ∈ zTB) (hlv : 1 ≤ zyD Y) (hroom : (S.map zcat).sum ≤ 8) (hs : zsh[o]? = some (.inl (true, n0))) (hi : i = (sp : Int)) (hj : j = (dp : Int)) (hx : x = (n : Int)) (hs1 : sp + n ≤ n0) (hs2 : dp + n ≤ n0) (hn0 : n0 ≤ 100000) (kk : Z rc Y kc ks (pc + 3) L S (hp (zmv σ o sp dp n)) Q) : Z rc Y kc ks pc L (zI x :: zI j :: zR o :: zI i :: zR o :: S) (hp σ) Q := by
  refine z_copy sp dp n hd hml h1 h2 h3 hlv hroom (hp_at hs) hi hj hx hs1 hs2 hn0 ?_
  have e : (hp σ).set o (.inl (true, n0, zcpy (σ o) (σ o) sp dp n)) = hp (zmv σ o sp dp n) := hp_set (zcpy (σ o) (σ o) sp dp n) hs
  rw [e]
  exact kk
theorem h_inst {rc : ZRC} {Y : ZY} {kc ks pc : Nat} {L : ZL} {S : List ZV} {σ : Mem} {Q : Option ZV → ZH → Prop} {idx o ci : Nat} {rs : List (Option Nat)} (C nm : String) (v : Int) (hd : decode (zyC Y) pc = .ok (.instanceof idx, 3)) (hcl : Cond.classLink (zyN Y).cls idx nm ∈ zTB) (hci : (vwCl[ci]?).map (·.1) = some C) (hs : zsh[o]? = some (.inr (ci, rs))) (hv : (v = 1 ∧ (C, nm) ∈ zcs) ∨ (v = 1 ∧ C = nm) ∨ (v = 0 ∧ (C, nm) ∈ znc)) (kk : Z rc Y kc ks (pc + 3) L (zI v :: S) (hp σ) Q) : Z rc Y kc ks pc L (zR o :: S) (hp σ) Q :=
  z_inst C nm v hd hcl hci (hp_at hs) hv kk
/-- contracts over the memory: an int, nothing, an object comes back -/
def qI (P : Int → Mem → Prop) : Option ZV → ZH → Prop := fun r h => ∃ v σ, r = some (zI v) ∧ h = hp σ ∧ P v σ
def qV (P : Mem → Prop) : Option ZV → ZH → Prop := fun r h => ∃ σ, r = none ∧ h = hp σ ∧ P σ
def qR (P : Nat → Mem → Prop) : Option ZV → ZH → Prop := fun r h => ∃ k σ, r = some (zR k) ∧ h = hp σ ∧ P k σ
abbrev KI (rc : ZRC) (Y : ZY) (av : List ZV) (σ : Mem) (P : Int → Mem → Prop) : Prop := K rc Y av (hp σ) (qI P)
abbrev KV (rc : ZRC) (Y : ZY) (av : List ZV) (σ : Mem) (P : Mem → Prop) : Prop := K rc Y av (hp σ) (qV P)
abbrev KR (rc : ZRC) (Y : ZY) (av : List ZV) (σ : Mem) (P : Nat → Mem → Prop) : Prop := K rc Y av (hp σ) (qR P)
theorem KI.mono {rc : ZRC} {Y : ZY} {av : List ZV} {σ : Mem} {P P' : Int → Mem → Prop} (h : KI rc Y av σ P) (hp : ∀ v σ', P v σ' → P' v σ') : KI rc Y av σ P' := K.weaken h (fun r h' q => by
  obtain ⟨v, σ', e1, e2, e3⟩ := q
  exact ⟨v, σ', e1, e2, hp v σ' e3⟩)
theorem KV.mono {rc : ZRC} {Y : ZY} {av : List ZV} {σ : Mem} {P P' : Mem → Prop} (h : KV rc Y av σ P) (hp : ∀ σ', P σ' → P' σ') : KV rc Y av σ P' := K.weaken h (fun r h' q => by
  obtain ⟨σ', e1, e2, e3⟩ := q
  exact ⟨σ', e1, e2, hp σ' e3⟩)
theorem h_iret {rc : ZRC} {Y : ZY} {kc ks pc : Nat} {L : ZL} {σ : Mem} {P : Int → Mem → Prop} {z : Int} (hd : decode (zyC Y) pc = .ok (.ireturn, 1)) (hY : zyR Y = some .int) (hkc : kc = zyMc Y) (hks : ks = zyMs Y) (hq : P z σ) : Z rc Y kc ks pc L [zI z] (hp σ) (qI P) := z_iret0 (S := []) hd (Or.inl hY) hkc hks ⟨z, σ, rfl, rfl, hq⟩
theorem h_zret {rc : ZRC} {Y : ZY} {kc ks pc : Nat} {L : ZL} {σ : Mem} {P : Int → Mem → Prop} {z : Int} (hd : decode (zyC Y) pc = .ok (.ireturn, 1)) (hY : zyR Y = some .boolean) (hz : z = 0 ∨ z = 1) (hkc : kc = zyMc Y) (hks : ks = zyMs Y) (hq : P z σ) : Z rc Y kc ks pc L [zI z] (hp σ) (qI P) := z_iret0 (S := []) hd (Or.inr ⟨hY, hz⟩) hkc hks ⟨z, σ, rfl, rfl, hq⟩
theorem h_vret {rc : ZRC} {Y : ZY} {kc ks pc : Nat} {L : ZL} {σ : Mem} {P : Mem → Prop} (hd : decode (zyC Y) pc = .ok (.return_, 1)) (hY : zyR Y = none) (hkc : kc = zyMc Y) (hks : ks = zyMs Y) (hq : P σ) : Z rc Y kc ks pc L [] (hp σ) (qV P) := z_vret (S := []) hd hY hkc hks ⟨σ, rfl, rfl, hq⟩
theorem h_aret {rc : ZRC} {Y : ZY} {kc ks pc : Nat} {L : ZL} {σ : Mem} {P : Nat → Mem → Prop} {k : Nat} {n : String} (hd : decode (zyC Y) pc = .ok (.areturn, 1)) (hY : zyR Y = some (.object n)) (hkc : kc = zyMc Y) (hks : ks = zyMs Y) (hq : P k σ) : Z rc Y kc ks pc L [zR k] (hp σ) (qR P) := z_aret (S := []) hd hY hkc hks ⟨k, σ, rfl, rfl, hq⟩
theorem h_Vi0 {rc : ZRC} {Y Y' : ZY} {kc ks pc : Nat} {L : ZL} {S : List ZV} {σ : Mem} {Q : Option ZV → ZH → Prop} {P : Int → Mem → Prop} {idx : Nat} {o ci : Nat} {rs : List (Option Nat)} (hd : decode (zyC Y) pc = .ok (.invokevirtual idx, 3)) (hml : Cond.methodLink (zyN Y).cls idx (zyN Y') ∈ zTB) (hin : Cond.instanceMethod (zyN Y') ∈ zTB) (hse : Cond.selects (zyN Y').cls (zyN Y') (zyN Y') ∈ zTB) (hci : (vwCl[ci]?).map (·.1) = some (zyN Y').cls) (hok : zok Y') (hlv : zyD Y' + 1 ≤ zyD Y) (hn : 0 = zyP Y') (hroom : (S.map zcat).sum ≤ 8) (hm : kc + zyMc Y' = kc ∧ ks + zyMs Y' = ks) (hm2 : kc ≤ zyMc Y ∧ ks ≤ zyMs Y) (hs : zsh[o]? = some (.inr (ci, rs))) (hK : KI rc Y' (zR o :: []) σ P) (kk : ∀ v σ2, P v σ2 → Z rc Y kc ks (pc + 3) L (zI v :: S) (hp σ2) Q) : Z rc Y kc ks pc L (zR o :: S) (hp σ) Q :=
  z_invV (av := []) hd hml hin hse hci hok hlv hn hroom (by rw [hm.1, hm.2]; exact hm2) (hp_at hs) hK (fun r h' q => by
    obtain ⟨v, σ2, rfl, rfl, e⟩ := q
    rw [hm.1, hm.2]
    exact kk v σ2 e)
theorem h_Vv0 {rc : ZRC} {Y Y' : ZY} {kc ks pc : Nat} {L : ZL} {S : List ZV} {σ : Mem} {Q : Option ZV → ZH → Prop} {P : Mem → Prop} {idx : Nat} {o ci : Nat} {rs : List (Option Nat)} (hd : decode (zyC Y) pc = .ok (.invokevirtual idx, 3)) (hml : Cond.methodLink (zyN Y).cls idx (zyN Y') ∈ zTB) (hin : Cond.instanceMethod (zyN Y') ∈ zTB) (hse : Cond.selects (zyN Y').cls (zyN Y') (zyN Y') ∈ zTB) (hci : (vwCl[ci]?).map (·.1) = some (zyN Y').cls) (hok : zok Y') (hlv : zyD Y' + 1 ≤ zyD Y) (hn : 0 = zyP Y') (hroom : (S.map zcat).sum ≤ 8) (hm : kc + zyMc Y' = kc ∧ ks + zyMs Y' = ks) (hm2 : kc ≤ zyMc Y ∧ ks ≤ zyMs Y) (hs : zsh[o]? = some (.inr (ci, rs))) (hK : KV rc Y' (zR o :: []) σ P) (kk : ∀ σ2, P σ2 → Z rc Y kc ks (pc + 3) L S (hp σ2) Q) : Z rc Y kc ks pc L (zR o :: S) (hp σ) Q :=
  z_invV (av := []) hd hml hin hse hci hok hlv hn hroom (by rw [hm.1, hm.2]; exact hm2) (hp_at hs) hK (fun r h' q => by
    obtain ⟨σ2, rfl, rfl, e⟩ := q
    rw [hm.1, hm.2]
    exact kk σ2 e)
theorem h_Vr0 {rc : ZRC} {Y Y' : ZY} {kc ks pc : Nat} {L : ZL} {S : List ZV} {σ : Mem} {Q : Option ZV → ZH → Prop} {P : Nat → Mem → Prop} {idx : Nat} {o ci : Nat} {rs : List (Option Nat)} (hd : decode (zyC Y) pc = .ok (.invokevirtual idx, 3)) (hml : Cond.methodLink (zyN Y).cls idx (zyN Y') ∈ zTB) (hin : Cond.instanceMethod (zyN Y') ∈ zTB) (hse : Cond.selects (zyN Y').cls (zyN Y') (zyN Y') ∈ zTB) (hci : (vwCl[ci]?).map (·.1) = some (zyN Y').cls) (hok : zok Y') (hlv : zyD Y' + 1 ≤ zyD Y) (hn : 0 = zyP Y') (hroom : (S.map zcat).sum ≤ 8) (hm : kc + zyMc Y' = kc ∧ ks + zyMs Y' = ks) (hm2 : kc ≤ zyMc Y ∧ ks ≤ zyMs Y) (hs : zsh[o]? = some (.inr (ci, rs))) (hK : KR rc Y' (zR o :: []) σ P) (kk : ∀ v σ2, P v σ2 → Z rc Y kc ks (pc + 3) L (zR v :: S) (hp σ2) Q) : Z rc Y kc ks pc L (zR o :: S) (hp σ) Q :=
  z_invV (av := []) hd hml hin hse hci hok hlv hn hroom (by rw [hm.1, hm.2]; exact hm2) (hp_at hs) hK (fun r h' q => by
    obtain ⟨v, σ2, rfl, rfl, e⟩ := q
    rw [hm.1, hm.2]
    exact kk v σ2 e)
theorem h_Si1 {rc : ZRC} {Y Y' : ZY} {kc ks pc : Nat} {L : ZL} {S : List ZV} {σ : Mem} {Q : Option ZV → ZH → Prop} {P : Int → Mem → Prop} {idx : Nat} {v1 : ZV} (hd : decode (zyC Y) pc = .ok (.invokestatic idx, 3)) (hml : Cond.methodLink (zyN Y).cls idx (zyN Y') ∈ zTB) (hst : Cond.static (zyN Y') ∈ zTB) (hok : zok Y') (hlv : zyD Y' + 1 ≤ zyD Y) (hn : 1 = zyP Y') (hroom : (S.map zcat).sum ≤ 8) (hm : kc + zyMc Y' = kc ∧ ks + zyMs Y' = ks) (hm2 : kc ≤ zyMc Y ∧ ks ≤ zyMs Y) (hK : KI rc Y' [v1] σ P) (kk : ∀ v σ2, P v σ2 → Z rc Y kc ks (pc + 3) L (zI v :: S) (hp σ2) Q) : Z rc Y kc ks pc L (v1 :: S) (hp σ) Q :=
  z_invS (av := [v1]) hd hml hst hok hlv hn hroom (by rw [hm.1, hm.2]; exact hm2) hK (fun r h' q => by
    obtain ⟨v, σ2, rfl, rfl, e⟩ := q
    rw [hm.1, hm.2]
    exact kk v σ2 e)
theorem h_Vi1 {rc : ZRC} {Y Y' : ZY} {kc ks pc : Nat} {L : ZL} {S : List ZV} {σ : Mem} {Q : Option ZV → ZH → Prop} {P : Int → Mem → Prop} {idx : Nat} {v1 : ZV} {o ci : Nat} {rs : List (Option Nat)} (hd : decode (zyC Y) pc = .ok (.invokevirtual idx, 3)) (hml : Cond.methodLink (zyN Y).cls idx (zyN Y') ∈ zTB) (hin : Cond.instanceMethod (zyN Y') ∈ zTB) (hse : Cond.selects (zyN Y').cls (zyN Y') (zyN Y') ∈ zTB) (hci : (vwCl[ci]?).map (·.1) = some (zyN Y').cls) (hok : zok Y') (hlv : zyD Y' + 1 ≤ zyD Y) (hn : 1 = zyP Y') (hroom : (S.map zcat).sum ≤ 8) (hm : kc + zyMc Y' = kc ∧ ks + zyMs Y' = ks) (hm2 : kc ≤ zyMc Y ∧ ks ≤ zyMs Y) (hs : zsh[o]? = some (.inr (ci, rs))) (hK : KI rc Y' (zR o :: [v1]) σ P) (kk : ∀ v σ2, P v σ2 → Z rc Y kc ks (pc + 3) L (zI v :: S) (hp σ2) Q) : Z rc Y kc ks pc L (v1 :: zR o :: S) (hp σ) Q :=
  z_invV (av := [v1]) hd hml hin hse hci hok hlv hn hroom (by rw [hm.1, hm.2]; exact hm2) (hp_at hs) hK (fun r h' q => by
    obtain ⟨v, σ2, rfl, rfl, e⟩ := q
    rw [hm.1, hm.2]
    exact kk v σ2 e)
theorem h_Ui1 {rc : ZRC} {Y Y' : ZY} {kc ks pc : Nat} {L : ZL} {S : List ZV} {σ : Mem} {Q : Option ZV → ZH → Prop} {P : Int → Mem → Prop} {idx : Nat} {v1 : ZV} {X : ZY} {o ci : Nat} {rs : List (Option Nat)} (C : String) (hd : decode (zyC Y) pc = .ok (.invokevirtual idx, 3)) (hml : Cond.methodLink (zyN Y).cls idx (zyN X) ∈ zTB) (hsm : Cond.sameMethod (zyN X).cls (zyN X).cls (zyN X).name (zyN X).desc ∈ zTB) (hxi : Cond.instanceMethod (zyN X) ∈ zTB) (hin : Cond.instanceMethod (zyN Y') ∈ zTB) (hse : Cond.selects C (zyN X) (zyN Y') ∈ zTB) (hci : (vwCl[ci]?).map (·.1) = some C) (hokX : zok X) (hpx : zyP X = zyP Y') (hok : zok Y') (hlv : zyD Y' + 1 ≤ zyD Y) (hn : 1 = zyP Y') (hroom : (S.map zcat).sum ≤ 8) (hm : kc + zyMc Y' = kc ∧ ks + zyMs Y' = ks) (hm2 : kc ≤ zyMc Y ∧ ks ≤ zyMs Y) (hs : zsh[o]? = some (.inr (ci, rs))) (hK : KI rc Y' (zR o :: [v1]) σ P) (kk : ∀ v σ2, P v σ2 → Z rc Y kc ks (pc + 3) L (zI v :: S) (hp σ2) Q) : Z rc Y kc ks pc L (v1 :: zR o :: S) (hp σ) Q :=
  z_invU (X := X) (av := [v1]) C hd hml hsm hxi hin hse hci hokX hok hlv (hn.trans hpx.symm) hroom (by rw [hm.1, hm.2]; exact hm2) (hp_at hs) hK (fun r h' q => by
    obtain ⟨v, σ2, rfl, rfl, e⟩ := q
    rw [hm.1, hm.2]
    exact kk v σ2 e)
theorem h_SUi1 {rc : ZRC} {Y Y' : ZY} {kc ks pc : Nat} {L : ZL} {S : List ZV} {σ : Mem} {Q : Option ZV → ZH → Prop} {P : Int → Mem → Prop} {idx : Nat} {v1 : ZV} {o ci : Nat} {rs : List (Option Nat)} (hd : decode (zyC Y) pc = .ok (.invokespecial idx, 3)) (hml : Cond.methodLink (zyN Y).cls idx (zyN Y') ∈ zTB) (hsm : Cond.sameMethod (zyN Y').cls (zyN Y').cls (zyN Y').name (zyN Y').desc ∈ zTB) (hsu : Cond.superclass (zyN Y).cls (zyN Y').cls ∈ zTB) (hin : Cond.instanceMethod (zyN Y') ∈ zTB) (hni : (zyN Y').name ≠ "<init>") (hci : ci < 12) (hok : zok Y') (hlv : zyD Y' + 1 ≤ zyD Y) (hn : 1 = zyP Y') (hroom : (S.map zcat).sum ≤ 8) (hm : kc + zyMc Y' = kc ∧ ks + zyMs Y' = ks) (hm2 : kc ≤ zyMc Y ∧ ks ≤ zyMs Y) (hs : zsh[o]? = some (.inr (ci, rs))) (hK : KI rc Y' (zR o :: [v1]) σ P) (kk : ∀ v σ2, P v σ2 → Z rc Y kc ks (pc + 3) L (zI v :: S) (hp σ2) Q) : Z rc Y kc ks pc L (v1 :: zR o :: S) (hp σ) Q :=
  z_invSU (av := [v1]) hd hml hsm hsu hin hni hok hlv hn hroom (by rw [hm.1, hm.2]; exact hm2) hci (hp_at hs) hK (fun r h' q => by
    obtain ⟨v, σ2, rfl, rfl, e⟩ := q
    rw [hm.1, hm.2]
    exact kk v σ2 e)
theorem h_Sv1 {rc : ZRC} {Y Y' : ZY} {kc ks pc : Nat} {L : ZL} {S : List ZV} {σ : Mem} {Q : Option ZV → ZH → Prop} {P : Mem → Prop} {idx : Nat} {v1 : ZV} (hd : decode (zyC Y) pc = .ok (.invokestatic idx, 3)) (hml : Cond.methodLink (zyN Y).cls idx (zyN Y') ∈ zTB) (hst : Cond.static (zyN Y') ∈ zTB) (hok : zok Y') (hlv : zyD Y' + 1 ≤ zyD Y) (hn : 1 = zyP Y') (hroom : (S.map zcat).sum ≤ 8) (hm : kc + zyMc Y' = kc ∧ ks + zyMs Y' = ks) (hm2 : kc ≤ zyMc Y ∧ ks ≤ zyMs Y) (hK : KV rc Y' [v1] σ P) (kk : ∀ σ2, P σ2 → Z rc Y kc ks (pc + 3) L S (hp σ2) Q) : Z rc Y kc ks pc L (v1 :: S) (hp σ) Q :=
  z_invS (av := [v1]) hd hml hst hok hlv hn hroom (by rw [hm.1, hm.2]; exact hm2) hK (fun r h' q => by
    obtain ⟨σ2, rfl, rfl, e⟩ := q
    rw [hm.1, hm.2]
    exact kk σ2 e)
theorem h_Vv1 {rc : ZRC} {Y Y' : ZY} {kc ks pc : Nat} {L : ZL} {S : List ZV} {σ : Mem} {Q : Option ZV → ZH → Prop} {P : Mem → Prop} {idx : Nat} {v1 : ZV} {o ci : Nat} {rs : List (Option Nat)} (hd : decode (zyC Y) pc = .ok (.invokevirtual idx, 3)) (hml : Cond.methodLink (zyN Y).cls idx (zyN Y') ∈ zTB) (hin : Cond.instanceMethod (zyN Y') ∈ zTB) (hse : Cond.selects (zyN Y').cls (zyN Y') (zyN Y') ∈ zTB) (hci : (vwCl[ci]?).map (·.1) = some (zyN Y').cls) (hok : zok Y') (hlv : zyD Y' + 1 ≤ zyD Y) (hn : 1 = zyP Y') (hroom : (S.map zcat).sum ≤ 8) (hm : kc + zyMc Y' = kc ∧ ks + zyMs Y' = ks) (hm2 : kc ≤ zyMc Y ∧ ks ≤ zyMs Y) (hs : zsh[o]? = some (.inr (ci, rs))) (hK : KV rc Y' (zR o :: [v1]) σ P) (kk : ∀ σ2, P σ2 → Z rc Y kc ks (pc + 3) L S (hp σ2) Q) : Z rc Y kc ks pc L (v1 :: zR o :: S) (hp σ) Q :=
  z_invV (av := [v1]) hd hml hin hse hci hok hlv hn hroom (by rw [hm.1, hm.2]; exact hm2) (hp_at hs) hK (fun r h' q => by
    obtain ⟨σ2, rfl, rfl, e⟩ := q
    rw [hm.1, hm.2]
    exact kk σ2 e)
theorem h_Vr1 {rc : ZRC} {Y Y' : ZY} {kc ks pc : Nat} {L : ZL} {S : List ZV} {σ : Mem} {Q : Option ZV → ZH → Prop} {P : Nat → Mem → Prop} {idx : Nat} {v1 : ZV} {o ci : Nat} {rs : List (Option Nat)} (hd : decode (zyC Y) pc = .ok (.invokevirtual idx, 3)) (hml : Cond.methodLink (zyN Y).cls idx (zyN Y') ∈ zTB) (hin : Cond.instanceMethod (zyN Y') ∈ zTB) (hse : Cond.selects (zyN Y').cls (zyN Y') (zyN Y') ∈ zTB) (hci : (vwCl[ci]?).map (·.1) = some (zyN Y').cls) (hok : zok Y') (hlv : zyD Y' + 1 ≤ zyD Y) (hn : 1 = zyP Y') (hroom : (S.map zcat).sum ≤ 8) (hm : kc + zyMc Y' = kc ∧ ks + zyMs Y' = ks) (hm2 : kc ≤ zyMc Y ∧ ks ≤ zyMs Y) (hs : zsh[o]? = some (.inr (ci, rs))) (hK : KR rc Y' (zR o :: [v1]) σ P) (kk : ∀ v σ2, P v σ2 → Z rc Y kc ks (pc + 3) L (zR v :: S) (hp σ2) Q) : Z rc Y kc ks pc L (v1 :: zR o :: S) (hp σ) Q :=
  z_invV (av := [v1]) hd hml hin hse hci hok hlv hn hroom (by rw [hm.1, hm.2]; exact hm2) (hp_at hs) hK (fun r h' q => by
    obtain ⟨v, σ2, rfl, rfl, e⟩ := q
    rw [hm.1, hm.2]
    exact kk v σ2 e)
theorem h_Si2 {rc : ZRC} {Y Y' : ZY} {kc ks pc : Nat} {L : ZL} {S : List ZV} {σ : Mem} {Q : Option ZV → ZH → Prop} {P : Int → Mem → Prop} {idx : Nat} {v1 v2 : ZV} (hd : decode (zyC Y) pc = .ok (.invokestatic idx, 3)) (hml : Cond.methodLink (zyN Y).cls idx (zyN Y') ∈ zTB) (hst : Cond.static (zyN Y') ∈ zTB) (hok : zok Y') (hlv : zyD Y' + 1 ≤ zyD Y) (hn : 2 = zyP Y') (hroom : (S.map zcat).sum ≤ 8) (hm : kc + zyMc Y' = kc ∧ ks + zyMs Y' = ks) (hm2 : kc ≤ zyMc Y ∧ ks ≤ zyMs Y) (hK : KI rc Y' [v1, v2] σ P) (kk : ∀ v σ2, P v σ2 → Z rc Y kc ks (pc + 3) L (zI v :: S) (hp σ2) Q) : Z rc Y kc ks pc L (v2 :: v1 :: S) (hp σ) Q :=
  z_invS (av := [v1, v2]) hd hml hst hok hlv hn hroom (by rw [hm.1, hm.2]; exact hm2) hK (fun r h' q => by
    obtain ⟨v, σ2, rfl, rfl, e⟩ := q
    rw [hm.1, hm.2]
    exact kk v σ2 e)
theorem h_Vi2 {rc : ZRC} {Y Y' : ZY} {kc ks pc : Nat} {L : ZL} {S : List ZV} {σ : Mem} {Q : Option ZV → ZH → Prop} {P : Int → Mem → Prop} {idx : Nat} {v1 v2 : ZV} {o ci : Nat} {rs : List (Option Nat)} (hd : decode (zyC Y) pc = .ok (.invokevirtual idx, 3)) (hml : Cond.methodLink (zyN Y).cls idx (zyN Y') ∈ zTB) (hin : Cond.instanceMethod (zyN Y') ∈ zTB) (hse : Cond.selects (zyN Y').cls (zyN Y') (zyN Y') ∈ zTB) (hci : (vwCl[ci]?).map (·.1) = some (zyN Y').cls) (hok : zok Y') (hlv : zyD Y' + 1 ≤ zyD Y) (hn : 2 = zyP Y') (hroom : (S.map zcat).sum ≤ 8) (hm : kc + zyMc Y' = kc ∧ ks + zyMs Y' = ks) (hm2 : kc ≤ zyMc Y ∧ ks ≤ zyMs Y) (hs : zsh[o]? = some (.inr (ci, rs))) (hK : KI rc Y' (zR o :: [v1, v2]) σ P) (kk : ∀ v σ2, P v σ2 → Z rc Y kc ks (pc + 3) L (zI v :: S) (hp σ2) Q) : Z rc Y kc ks pc L (v2 :: v1 :: zR o :: S) (hp σ) Q :=
  z_invV (av := [v1, v2]) hd hml hin hse hci hok hlv hn hroom (by rw [hm.1, hm.2]; exact hm2) (hp_at hs) hK (fun r h' q => by
    obtain ⟨v, σ2, rfl, rfl, e⟩ := q
    rw [hm.1, hm.2]
    exact kk v σ2 e)
theorem h_Sv2 {rc : ZRC} {Y Y' : ZY} {kc ks pc : Nat} {L : ZL} {S : List ZV} {σ : Mem} {Q : Option ZV → ZH → Prop} {P : Mem → Prop} {idx : Nat} {v1 v2 : ZV} (hd : decode (zyC Y) pc = .ok (.invokestatic idx, 3)) (hml : Cond.methodLink (zyN Y).cls idx (zyN Y') ∈ zTB) (hst : Cond.static (zyN Y') ∈ zTB) (hok : zok Y') (hlv : zyD Y' + 1 ≤ zyD Y) (hn : 2 = zyP Y') (hroom : (S.map zcat).sum ≤ 8) (hm : kc + zyMc Y' = kc ∧ ks + zyMs Y' = ks) (hm2 : kc ≤ zyMc Y ∧ ks ≤ zyMs Y) (hK : KV rc Y' [v1, v2] σ P) (kk : ∀ σ2, P σ2 → Z rc Y kc ks (pc + 3) L S (hp σ2) Q) : Z rc Y kc ks pc L (v2 :: v1 :: S) (hp σ) Q :=
  z_invS (av := [v1, v2]) hd hml hst hok hlv hn hroom (by rw [hm.1, hm.2]; exact hm2) hK (fun r h' q => by
    obtain ⟨σ2, rfl, rfl, e⟩ := q
    rw [hm.1, hm.2]
    exact kk σ2 e)
theorem h_Vv2 {rc : ZRC} {Y Y' : ZY} {kc ks pc : Nat} {L : ZL} {S : List ZV} {σ : Mem} {Q : Option ZV → ZH → Prop} {P : Mem → Prop} {idx : Nat} {v1 v2 : ZV} {o ci : Nat} {rs : List (Option Nat)} (hd : decode (zyC Y) pc = .ok (.invokevirtual idx, 3)) (hml : Cond.methodLink (zyN Y).cls idx (zyN Y') ∈ zTB) (hin : Cond.instanceMethod (zyN Y') ∈ zTB) (hse : Cond.selects (zyN Y').cls (zyN Y') (zyN Y') ∈ zTB) (hci : (vwCl[ci]?).map (·.1) = some (zyN Y').cls) (hok : zok Y') (hlv : zyD Y' + 1 ≤ zyD Y) (hn : 2 = zyP Y') (hroom : (S.map zcat).sum ≤ 8) (hm : kc + zyMc Y' = kc ∧ ks + zyMs Y' = ks) (hm2 : kc ≤ zyMc Y ∧ ks ≤ zyMs Y) (hs : zsh[o]? = some (.inr (ci, rs))) (hK : KV rc Y' (zR o :: [v1, v2]) σ P) (kk : ∀ σ2, P σ2 → Z rc Y kc ks (pc + 3) L S (hp σ2) Q) : Z rc Y kc ks pc L (v2 :: v1 :: zR o :: S) (hp σ) Q :=
  z_invV (av := [v1, v2]) hd hml hin hse hci hok hlv hn hroom (by rw [hm.1, hm.2]; exact hm2) (hp_at hs) hK (fun r h' q => by
    obtain ⟨σ2, rfl, rfl, e⟩ := q
    rw [hm.1, hm.2]
    exact kk σ2 e)
theorem h_Si3 {rc : ZRC} {Y Y' : ZY} {kc ks pc : Nat} {L : ZL} {S : List ZV} {σ : Mem} {Q : Option ZV → ZH → Prop} {P : Int → Mem → Prop} {idx : Nat} {v1 v2 v3 : ZV} (hd : decode (zyC Y) pc = .ok (.invokestatic idx, 3)) (hml : Cond.methodLink (zyN Y).cls idx (zyN Y') ∈ zTB) (hst : Cond.static (zyN Y') ∈ zTB) (hok : zok Y') (hlv : zyD Y' + 1 ≤ zyD Y) (hn : 3 = zyP Y') (hroom : (S.map zcat).sum ≤ 8) (hm : kc + zyMc Y' = kc ∧ ks + zyMs Y' = ks) (hm2 : kc ≤ zyMc Y ∧ ks ≤ zyMs Y) (hK : KI rc Y' [v1, v2, v3] σ P) (kk : ∀ v σ2, P v σ2 → Z rc Y kc ks (pc + 3) L (zI v :: S) (hp σ2) Q) : Z rc Y kc ks pc L (v3 :: v2 :: v1 :: S) (hp σ) Q :=
  z_invS (av := [v1, v2, v3]) hd hml hst hok hlv hn hroom (by rw [hm.1, hm.2]; exact hm2) hK (fun r h' q => by
    obtain ⟨v, σ2, rfl, rfl, e⟩ := q
    rw [hm.1, hm.2]
    exact kk v σ2 e)
theorem h_Vi3 {rc : ZRC} {Y Y' : ZY} {kc ks pc : Nat} {L : ZL} {S : List ZV} {σ : Mem} {Q : Option ZV → ZH → Prop} {P : Int → Mem → Prop} {idx : Nat} {v1 v2 v3 : ZV} {o ci : Nat} {rs : List (Option Nat)} (hd : decode (zyC Y) pc = .ok (.invokevirtual idx, 3)) (hml : Cond.methodLink (zyN Y).cls idx (zyN Y') ∈ zTB) (hin : Cond.instanceMethod (zyN Y') ∈ zTB) (hse : Cond.selects (zyN Y').cls (zyN Y') (zyN Y') ∈ zTB) (hci : (vwCl[ci]?).map (·.1) = some (zyN Y').cls) (hok : zok Y') (hlv : zyD Y' + 1 ≤ zyD Y) (hn : 3 = zyP Y') (hroom : (S.map zcat).sum ≤ 8) (hm : kc + zyMc Y' = kc ∧ ks + zyMs Y' = ks) (hm2 : kc ≤ zyMc Y ∧ ks ≤ zyMs Y) (hs : zsh[o]? = some (.inr (ci, rs))) (hK : KI rc Y' (zR o :: [v1, v2, v3]) σ P) (kk : ∀ v σ2, P v σ2 → Z rc Y kc ks (pc + 3) L (zI v :: S) (hp σ2) Q) : Z rc Y kc ks pc L (v3 :: v2 :: v1 :: zR o :: S) (hp σ) Q :=
  z_invV (av := [v1, v2, v3]) hd hml hin hse hci hok hlv hn hroom (by rw [hm.1, hm.2]; exact hm2) (hp_at hs) hK (fun r h' q => by
    obtain ⟨v, σ2, rfl, rfl, e⟩ := q
    rw [hm.1, hm.2]
    exact kk v σ2 e)
theorem h_Sv3 {rc : ZRC} {Y Y' : ZY} {kc ks pc : Nat} {L : ZL} {S : List ZV} {σ : Mem} {Q : Option ZV → ZH → Prop} {P : Mem → Prop} {idx : Nat} {v1 v2 v3 : ZV} (hd : decode (zyC Y) pc = .ok (.invokestatic idx, 3)) (hml : Cond.methodLink (zyN Y).cls idx (zyN Y') ∈ zTB) (hst : Cond.static (zyN Y') ∈ zTB) (hok : zok Y') (hlv : zyD Y' + 1 ≤ zyD Y) (hn : 3 = zyP Y') (hroom : (S.map zcat).sum ≤ 8) (hm : kc + zyMc Y' = kc ∧ ks + zyMs Y' = ks) (hm2 : kc ≤ zyMc Y ∧ ks ≤ zyMs Y) (hK : KV rc Y' [v1, v2, v3] σ P) (kk : ∀ σ2, P σ2 → Z rc Y kc ks (pc + 3) L S (hp σ2) Q) : Z rc Y kc ks pc L (v3 :: v2 :: v1 :: S) (hp σ) Q :=
  z_invS (av := [v1, v2, v3]) hd hml hst hok hlv hn hroom (by rw [hm.1, hm.2]; exact hm2) hK (fun r h' q => by
    obtain ⟨σ2, rfl, rfl, e⟩ := q
    rw [hm.1, hm.2]
    exact kk σ2 e)
theorem h_Vv3 {rc : ZRC} {Y Y' : ZY} {kc ks pc : Nat} {L : ZL} {S : List ZV} {σ : Mem} {Q : Option ZV → ZH → Prop} {P : Mem → Prop} {idx : Nat} {v1 v2 v3 : ZV} {o ci : Nat} {rs : List (Option Nat)} (hd : decode (zyC Y) pc = .ok (.invokevirtual idx, 3)) (hml : Cond.methodLink (zyN Y).cls idx (zyN Y') ∈ zTB) (hin : Cond.instanceMethod (zyN Y') ∈ zTB) (hse : Cond.selects (zyN Y').cls (zyN Y') (zyN Y') ∈ zTB) (hci : (vwCl[ci]?).map (·.1) = some (zyN Y').cls) (hok : zok Y') (hlv : zyD Y' + 1 ≤ zyD Y) (hn : 3 = zyP Y') (hroom : (S.map zcat).sum ≤ 8) (hm : kc + zyMc Y' = kc ∧ ks + zyMs Y' = ks) (hm2 : kc ≤ zyMc Y ∧ ks ≤ zyMs Y) (hs : zsh[o]? = some (.inr (ci, rs))) (hK : KV rc Y' (zR o :: [v1, v2, v3]) σ P) (kk : ∀ σ2, P σ2 → Z rc Y kc ks (pc + 3) L S (hp σ2) Q) : Z rc Y kc ks pc L (v3 :: v2 :: v1 :: zR o :: S) (hp σ) Q :=
  z_invV (av := [v1, v2, v3]) hd hml hin hse hci hok hlv hn hroom (by rw [hm.1, hm.2]; exact hm2) (hp_at hs) hK (fun r h' q => by
    obtain ⟨σ2, rfl, rfl, e⟩ := q
    rw [hm.1, hm.2]
    exact kk σ2 e)
theorem h_Si4 {rc : ZRC} {Y Y' : ZY} {kc ks pc : Nat} {L : ZL} {S : List ZV} {σ : Mem} {Q : Option ZV → ZH → Prop} {P : Int → Mem → Prop} {idx : Nat} {v1 v2 v3 v4 : ZV} (hd : decode (zyC Y) pc = .ok (.invokestatic idx, 3)) (hml : Cond.methodLink (zyN Y).cls idx (zyN Y') ∈ zTB) (hst : Cond.static (zyN Y') ∈ zTB) (hok : zok Y') (hlv : zyD Y' + 1 ≤ zyD Y) (hn : 4 = zyP Y') (hroom : (S.map zcat).sum ≤ 8) (hm : kc + zyMc Y' = kc ∧ ks + zyMs Y' = ks) (hm2 : kc ≤ zyMc Y ∧ ks ≤ zyMs Y) (hK : KI rc Y' [v1, v2, v3, v4] σ P) (kk : ∀ v σ2, P v σ2 → Z rc Y kc ks (pc + 3) L (zI v :: S) (hp σ2) Q) : Z rc Y kc ks pc L (v4 :: v3 :: v2 :: v1 :: S) (hp σ) Q :=
  z_invS (av := [v1, v2, v3, v4]) hd hml hst hok hlv hn hroom (by rw [hm.1, hm.2]; exact hm2) hK (fun r h' q => by
    obtain ⟨v, σ2, rfl, rfl, e⟩ := q
    rw [hm.1, hm.2]
    exact kk v σ2 e)
theorem h_Vi4 {rc : ZRC} {Y Y' : ZY} {kc ks pc : Nat} {L : ZL} {S : List ZV} {σ : Mem} {Q : Option ZV → ZH → Prop} {P : Int → Mem → Prop} {idx : Nat} {v1 v2 v3 v4 : ZV} {o ci : Nat} {rs : List (Option Nat)} (hd : decode (zyC Y) pc = .ok (.invokevirtual idx, 3)) (hml : Cond.methodLink (zyN Y).cls idx (zyN Y') ∈ zTB) (hin : Cond.instanceMethod (zyN Y') ∈ zTB) (hse : Cond.selects (zyN Y').cls (zyN Y') (zyN Y') ∈ zTB) (hci : (vwCl[ci]?).map (·.1) = some (zyN Y').cls) (hok : zok Y') (hlv : zyD Y' + 1 ≤ zyD Y) (hn : 4 = zyP Y') (hroom : (S.map zcat).sum ≤ 8) (hm : kc + zyMc Y' = kc ∧ ks + zyMs Y' = ks) (hm2 : kc ≤ zyMc Y ∧ ks ≤ zyMs Y) (hs : zsh[o]? = some (.inr (ci, rs))) (hK : KI rc Y' (zR o :: [v1, v2, v3, v4]) σ P) (kk : ∀ v σ2, P v σ2 → Z rc Y kc ks (pc + 3) L (zI v :: S) (hp σ2) Q) : Z rc Y kc ks pc L (v4 :: v3 :: v2 :: v1 :: zR o :: S) (hp σ) Q :=
  z_invV (av := [v1, v2, v3, v4]) hd hml hin hse hci hok hlv hn hroom (by rw [hm.1, hm.2]; exact hm2) (hp_at hs) hK (fun r h' q => by
    obtain ⟨v, σ2, rfl, rfl, e⟩ := q
    rw [hm.1, hm.2]
    exact kk v σ2 e)
theorem h_Sv4 {rc : ZRC} {Y Y' : ZY} {kc ks pc : Nat} {L : ZL} {S : List ZV} {σ : Mem} {Q : Option ZV → ZH → Prop} {P : Mem → Prop} {idx : Nat} {v1 v2 v3 v4 : ZV} (hd : decode (zyC Y) pc = .ok (.invokestatic idx, 3)) (hml : Cond.methodLink (zyN Y).cls idx (zyN Y') ∈ zTB) (hst : Cond.static (zyN Y') ∈ zTB) (hok : zok Y') (hlv : zyD Y' + 1 ≤ zyD Y) (hn : 4 = zyP Y') (hroom : (S.map zcat).sum ≤ 8) (hm : kc + zyMc Y' = kc ∧ ks + zyMs Y' = ks) (hm2 : kc ≤ zyMc Y ∧ ks ≤ zyMs Y) (hK : KV rc Y' [v1, v2, v3, v4] σ P) (kk : ∀ σ2, P σ2 → Z rc Y kc ks (pc + 3) L S (hp σ2) Q) : Z rc Y kc ks pc L (v4 :: v3 :: v2 :: v1 :: S) (hp σ) Q :=
  z_invS (av := [v1, v2, v3, v4]) hd hml hst hok hlv hn hroom (by rw [hm.1, hm.2]; exact hm2) hK (fun r h' q => by
    obtain ⟨σ2, rfl, rfl, e⟩ := q
    rw [hm.1, hm.2]
    exact kk σ2 e)
theorem h_Vv4 {rc : ZRC} {Y Y' : ZY} {kc ks pc : Nat} {L : ZL} {S : List ZV} {σ : Mem} {Q : Option ZV → ZH → Prop} {P : Mem → Prop} {idx : Nat} {v1 v2 v3 v4 : ZV} {o ci : Nat} {rs : List (Option Nat)} (hd : decode (zyC Y) pc = .ok (.invokevirtual idx, 3)) (hml : Cond.methodLink (zyN Y).cls idx (zyN Y') ∈ zTB) (hin : Cond.instanceMethod (zyN Y') ∈ zTB) (hse : Cond.selects (zyN Y').cls (zyN Y') (zyN Y') ∈ zTB) (hci : (vwCl[ci]?).map (·.1) = some (zyN Y').cls) (hok : zok Y') (hlv : zyD Y' + 1 ≤ zyD Y) (hn : 4 = zyP Y') (hroom : (S.map zcat).sum ≤ 8) (hm : kc + zyMc Y' = kc ∧ ks + zyMs Y' = ks) (hm2 : kc ≤ zyMc Y ∧ ks ≤ zyMs Y) (hs : zsh[o]? = some (.inr (ci, rs))) (hK : KV rc Y' (zR o :: [v1, v2, v3, v4]) σ P) (kk : ∀ σ2, P σ2 → Z rc Y kc ks (pc + 3) L S (hp σ2) Q) : Z rc Y kc ks pc L (v4 :: v3 :: v2 :: v1 :: zR o :: S) (hp σ) Q :=
  z_invV (av := [v1, v2, v3, v4]) hd hml hin hse hci hok hlv hn hroom (by rw [hm.1, hm.2]; exact hm2) (hp_at hs) hK (fun r h' q => by
    obtain ⟨σ2, rfl, rfl, e⟩ := q
    rw [hm.1, hm.2]
    exact kk σ2 e)
theorem h_Si5 {rc : ZRC} {Y Y' : ZY} {kc ks pc : Nat} {L : ZL} {S : List ZV} {σ : Mem} {Q : Option ZV → ZH → Prop} {P : Int → Mem → Prop} {idx : Nat} {v1 v2 v3 v4 v5 : ZV} (hd : decode (zyC Y) pc = .ok (.invokestatic idx, 3)) (hml : Cond.methodLink (zyN Y).cls idx (zyN Y') ∈ zTB) (hst : Cond.static (zyN Y') ∈ zTB) (hok : zok Y') (hlv : zyD Y' + 1 ≤ zyD Y) (hn : 5 = zyP Y') (hroom : (S.map zcat).sum ≤ 8) (hm : kc + zyMc Y' = kc ∧ ks + zyMs Y' = ks) (hm2 : kc ≤ zyMc Y ∧ ks ≤ zyMs Y) (hK : KI rc Y' [v1, v2, v3, v4, v5] σ P) (kk : ∀ v σ2, P v σ2 → Z rc Y kc ks (pc + 3) L (zI v :: S) (hp σ2) Q) : Z rc Y kc ks pc L (v5 :: v4 :: v3 :: v2 :: v1 :: S) (hp σ) Q :=
  z_invS (av := [v1, v2, v3, v4, v5]) hd hml hst hok hlv hn hroom (by rw [hm.1, hm.2]; exact hm2) hK (fun r h' q => by
    obtain ⟨v, σ2, rfl, rfl, e⟩ := q
    rw [hm.1, hm.2]
    exact kk v σ2 e)
theorem h_Vi5 {rc : ZRC} {Y Y' : ZY} {kc ks pc : Nat} {L : ZL} {S : List ZV} {σ : Mem} {Q : Option ZV → ZH → Prop} {P : Int → Mem → Prop} {idx : Nat} {v1 v2 v3 v4 v5 : ZV} {o ci : Nat} {rs : List (Option Nat)} (hd : decode (zyC Y) pc = .ok (.invokevirtual idx, 3)) (hml : Cond.methodLink (zyN Y).cls idx (zyN Y') ∈ zTB) (hin : Cond.instanceMethod (zyN Y') ∈ zTB) (hse : Cond.selects (zyN Y').cls (zyN Y') (zyN Y') ∈ zTB) (hci : (vwCl[ci]?).map (·.1) = some (zyN Y').cls) (hok : zok Y') (hlv : zyD Y' + 1 ≤ zyD Y) (hn : 5 = zyP Y') (hroom : (S.map zcat).sum ≤ 8) (hm : kc + zyMc Y' = kc ∧ ks + zyMs Y' = ks) (hm2 : kc ≤ zyMc Y ∧ ks ≤ zyMs Y) (hs : zsh[o]? = some (.inr (ci, rs))) (hK : KI rc Y' (zR o :: [v1, v2, v3, v4, v5]) σ P) (kk : ∀ v σ2, P v σ2 → Z rc Y kc ks (pc + 3) L (zI v :: S) (hp σ2) Q) : Z rc Y kc ks pc L (v5 :: v4 :: v3 :: v2 :: v1 :: zR o :: S) (hp σ) Q :=
  z_invV (av := [v1, v2, v3, v4, v5]) hd hml hin hse hci hok hlv hn hroom (by rw [hm.1, hm.2]; exact hm2) (hp_at hs) hK (fun r h' q => by
    obtain ⟨v, σ2, rfl, rfl, e⟩ := q
    rw [hm.1, hm.2]
    exact kk v σ2 e)
theorem h_Sv5 {rc : ZRC} {Y Y' : ZY} {kc ks pc : Nat} {L : ZL} {S : List ZV} {σ : Mem} {Q : Option ZV → ZH → Prop} {P : Mem → Prop} {idx : Nat} {v1 v2 v3 v4 v5 : ZV} (hd : decode (zyC Y) pc = .ok (.invokestatic idx, 3)) (hml : Cond.methodLink (zyN Y).cls idx (zyN Y') ∈ zTB) (hst : Cond.static (zyN Y') ∈ zTB) (hok : zok Y') (hlv : zyD Y' + 1 ≤ zyD Y) (hn : 5 = zyP Y') (hroom : (S.map zcat).sum ≤ 8) (hm : kc + zyMc Y' = kc ∧ ks + zyMs Y' = ks) (hm2 : kc ≤ zyMc Y ∧ ks ≤ zyMs Y) (hK : KV rc Y' [v1, v2, v3, v4, v5] σ P) (kk : ∀ σ2, P σ2 → Z rc Y kc ks (pc + 3) L S (hp σ2) Q) : Z rc Y kc ks pc L (v5 :: v4 :: v3 :: v2 :: v1 :: S) (hp σ) Q :=
  z_invS (av := [v1, v2, v3, v4, v5]) hd hml hst hok hlv hn hroom (by rw [hm.1, hm.2]; exact hm2) hK (fun r h' q => by
    obtain ⟨σ2, rfl, rfl, e⟩ := q
    rw [hm.1, hm.2]
    exact kk σ2 e)
theorem h_Vv5 {rc : ZRC} {Y Y' : ZY} {kc ks pc : Nat} {L : ZL} {S : List ZV} {σ : Mem} {Q : Option ZV → ZH → Prop} {P : Mem → Prop} {idx : Nat} {v1 v2 v3 v4 v5 : ZV} {o ci : Nat} {rs : List (Option Nat)} (hd : decode (zyC Y) pc = .ok (.invokevirtual idx, 3)) (hml : Cond.methodLink (zyN Y).cls idx (zyN Y') ∈ zTB) (hin : Cond.instanceMethod (zyN Y') ∈ zTB) (hse : Cond.selects (zyN Y').cls (zyN Y') (zyN Y') ∈ zTB) (hci : (vwCl[ci]?).map (·.1) = some (zyN Y').cls) (hok : zok Y') (hlv : zyD Y' + 1 ≤ zyD Y) (hn : 5 = zyP Y') (hroom : (S.map zcat).sum ≤ 8) (hm : kc + zyMc Y' = kc ∧ ks + zyMs Y' = ks) (hm2 : kc ≤ zyMc Y ∧ ks ≤ zyMs Y) (hs : zsh[o]? = some (.inr (ci, rs))) (hK : KV rc Y' (zR o :: [v1, v2, v3, v4, v5]) σ P) (kk : ∀ σ2, P σ2 → Z rc Y kc ks (pc + 3) L S (hp σ2) Q) : Z rc Y kc ks pc L (v5 :: v4 :: v3 :: v2 :: v1 :: zR o :: S) (hp σ) Q :=
  z_invV (av := [v1, v2, v3, v4, v5]) hd hml hin hse hci hok hlv hn hroom (by rw [hm.1, hm.2]; exact hm2) (hp_at hs) hK (fun r h' q => by
    obtain ⟨σ2, rfl, rfl, e⟩ := q
    rw [hm.1, hm.2]
    exact kk σ2 e)
theorem zc_lit (n : Nat) : (OfNat.ofNat n : Int) = ((OfNat.ofNat n : Nat) : Int) := rfl
theorem zc_add {a b : Int} {x y : Nat} (ha : a = (x : Int)) (hb : b = (y : Int)) : a + b = ((x + y : Nat) : Int) := by omega
theorem zc_mul {a b : Int} {x y : Nat} (ha : a = (x : Int)) (hb : b = (y : Int)) : a * b = ((x * y : Nat) : Int) := by rw [ha, hb, Int.natCast_mul]
