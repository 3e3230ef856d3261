/-! the start of both, and the law: a call of each, then the next -/
def ini (f : Nat → Int) : Mem := fun o j => if o = 41 then f j else if (o = 8 ∨ o = 13 ∨ o = 18 ∨ o = 23) ∧ j = 11 then 1 else 0
def al0 : Mem := fun i _ => if i = 1 then -1 else 0
theorem ini_hp {f : Nat → Int} : [zO 10 [zR 1, zR 5, zR 8, zR 13, zR 18, zR 23, zR 28, zR 30, zR 32, zR 33, zR 34, zR 35, zR 36, zR 37, zR 38, zR 39, zI 0, zI 0], zO 6 [zR 2, zR 3, zR 4], zA 8 (fun _ => 0), zA 8 (fun _ => 0), zA 320 (fun _ => 0), zO 8 [zR 6, zR 7, zI 0, zI 0, zI 0], zA 100 (fun _ => 0), zA 5 (fun _ => 0), zO 2 [zR 9, zR 10, zR 11, zR 12, zI 0, zI 0, zI 0, zI 0, zI 0, zI 0, zI 0, zI 1, zI 0], zA 5 (fun _ => 0), zA 5 (fun _ => 0), zA 5 (fun _ => 0), zA 5 (fun _ => 0), zO 2 [zR 14, zR 15, zR 16, zR 17, zI 0, zI 0, zI 0, zI 0, zI 0, zI 0, zI 0, zI 1, zI 0], zA 5 (fun _ => 0), zA 5 (fun _ => 0), zA 5 (fun _ => 0), zA 5 (fun _ => 0), zO 2 [zR 19, zR 20, zR 21, zR 22, zI 0, zI 0, zI 0, zI 0, zI 0, zI 0, zI 0, zI 1, zI 0], zA 5 (fun _ => 0), zA 5 (fun _ => 0), zA 5 (fun _ => 0), zA 5 (fun _ => 0), zO 2 [zR 24, zR 25, zR 26, zR 27, zI 0, zI 0, zI 0, zI 0, zI 0, zI 0, zI 0, zI 1, zI 0], zA 5 (fun _ => 0), zA 5 (fun _ => 0), zA 5 (fun _ => 0), zA 5 (fun _ => 0), zO 4 [zR 29, zI 0, zI 0], zA 312 (fun _ => 0), zO 0 [zR 31, zI 0, zI 0, zI 0, zI 0], zA 16 (fun _ => 0), zO 3 [], zO 1 [], zO 7 [], zO 9 [], zO 5 [], zA 50 (fun _ => 0), zA 60 (fun _ => 0), zA 5 (fun _ => 0)] ++ [zO 11 [zR (40 + 1), zR (40 + 2), zR (40 + 3), zI 0, zI 0, zR (40 + 4), zI 0, zI 0, zI 0, zI 0, zI 0, zI 0, zR (40 + 5), zR (40 + 6), zR (40 + 7), zR (40 + 8), zR (40 + 9), zR (40 + 10), zI 0, zR (40 + 11), zI 0, zR (40 + 12), zR (40 + 13), zR (40 + 14), zI 0, zI 0], zA 8 (f), zA 8 (fun _ => 0), zA 320 (fun _ => 0), zA 100 (fun _ => 0), zA 29 (fun _ => 0), zA 29 (fun _ => 0), zA 29 (fun _ => 0), zA 58 (fun _ => 0), zB 2 (fun _ => 0), zA 696 (fun _ => 0), zA 16 (fun _ => 0), zA 16 (fun _ => 0), zA 5 (fun _ => 0), zA 5 (fun _ => 0)] = hp (ini f) := rfl
theorem ini_C {f : Nat → Int} : CI (ini f) al0 := ⟨⟨rfl, rfl⟩, ⟨fun r _ => ⟨rfl, rfl⟩, fun i _ => rfl⟩, ⟨rfl, fun i hi => by
  have hi : (i : Int) < 0 := hi
  omega⟩, ⟨rfl, rfl, rfl, rfl, rfl, rfl, rfl, fun h => absurd h (by decide), rfl, fun p _ => ⟨rfl, rfl, rfl, rfl⟩⟩, ⟨⟨rfl, rfl⟩, fun h => absurd h (by decide), fun h => absurd h (by decide)⟩, ⟨rfl, 0, by omega, rfl, fun j hj => by
  have hj : (j : Int) < 0 := hj
  omega⟩, ⟨rfl, fun i hi => by
  have hi : (i : Int) < 0 := hi
  omega⟩⟩
theorem ini_M {f : Nat → Int} (hf : ∀ j, j < 8 → f j = -1) : MI (ini f) al0 := ⟨⟨rfl, rfl⟩, ⟨fun r hr => ⟨hf r hr, rfl⟩, fun i _ => rfl⟩, ⟨rfl, fun i hi => by
  have hi : (i : Int) < 0 := hi
  omega⟩, fun i _ => rfl, ⟨⟨rfl, rfl⟩, fun h => absurd h (by decide), fun h => absurd h (by decide)⟩, ⟨rfl, fun j hj => by
  have hj : (j : Int) < 0 := hj
  omega⟩, ⟨rfl, fun i hi => by
  have hi : (i : Int) < 0 := hi
  omega⟩⟩
theorem ini_O : OK al0 := ⟨⟨by decide, by decide, by decide, by decide, by decide, Or.inl rfl, Or.inl rfl⟩, ⟨fun r _ => ⟨⟨show (-1 : Int) ≤ -1 by omega, show (-1 : Int) ≤ 2 by omega⟩, ⟨show (0 : Int) ≤ 0 by omega, show (0 : Int) ≤ 40 by omega⟩⟩, fun i _ => ⟨show (-2147483648 : Int) ≤ 0 by omega, show (0 : Int) ≤ 2147483647 by omega⟩⟩, ⟨Or.inr ⟨⟨rfl, rfl, rfl, rfl, rfl, rfl⟩, rfl⟩, fun j hj => by
  have hj : (j : Int) < 0 := hj
  omega⟩, ⟨fun h => absurd h (by decide), fun h => absurd h (by decide)⟩, ⟨fun i hi => by
  have hi : (i : Int) < 0 := hi
  omega, fun i hi => by
  have hi : (i : Int) < 0 := hi
  omega⟩⟩
theorem z_icmp_same {rc : ZRC} {Y : ZY} {kc ks pc : Nat} {L : ZL} {S : List ZV} {h : ZH} {Q : Option ZV → ZH → Prop} {a off : Int} {tgt : Nat} (hd : decode (zyC Y) pc = .ok (.if_icmp .eq off, 3)) (ht : (pc : Int) + off = (tgt : Int)) (t : Z rc Y kc ks tgt L S h Q) : Z rc Y kc ks pc L (zI a :: zI a :: S) h Q := by
  intro p l e R s m args below meth c D A ro ads0 Qm H locs more ls st hc hr hw hl hs
  obtain ⟨st1, rfl, hs1⟩ := zs_I hs
  obtain ⟨st2, rfl, hs2⟩ := zs_I hs1
  exact lv_icmp_eq hc.1 hc.2.1 hd ht (fun _ => t hc hr hw hl hs2) (fun q => absurd rfl q)
theorem MI_fr {σ σ' α : Mem} (h : MI σ α) (hf : fr 0 40 σ σ') : MI σ' α := h.keep (fun o j h1 h2 _ => hf o j (by omega))
theorem CI_fr {σ σ' α : Mem} (h : CI σ α) (hf : fr 40 15 σ σ') : CI σ' α := h.keep (fun o j h1 _ => hf o j (by omega))
abbrev lawQ : Option ZV → ZH → Prop := qI (fun v _ => v = 1)
abbrev lawL (i : Nat) : ZL := [some (zT 6), some (zR 0), some (zR 40), some (zI (i : Int))]
section
variable {rc : ZRC} {σ α : Mem} {N i : Nat} {xs : Nat → Int}
theorem law_row (h6 : rc 6 = some (N, xs)) (hx : ∀ j, zin (xs j)) (hN : N ≤ 384) (hi : i + 6 ≤ N) (hC : CI σ α) (hM : MI σ α) (hO : OK α) (nxt : ∀ σ α, CI σ α → MI σ α → OK α → Z rc M_L_law 55 2397 1152 (lawL i) [] (hp σ) lawQ) : Z rc M_L_law 55 2397 176 (lawL i) [] (hp σ) lawQ := by
  refine z_aload_n dL_law_176 rfl ?_
  refine z_aload_nT dL_law_177 rfl ?_
  refine z_iload_n dL_law_178 rfl ?_
  refine z_iconst dL_law_179 ?_
  refine z_iadd dL_law_180 ?_
  refine z_ialdT _ dL_law_181 (by assumption) (by repeat' first | apply zc_add | apply zc_mul | with_reducible exact zc_var _ | exact zc_lit _) (by omega) (by omega) ?_
  refine z_aload_nT dL_law_182 rfl ?_
  refine z_iload_n dL_law_183 rfl ?_
  refine z_iconst dL_law_184 ?_
  refine z_iadd dL_law_185 ?_
  refine z_ialdT _ dL_law_186 (by assumption) (by repeat' first | apply zc_add | apply zc_mul | with_reducible exact zc_var _ | exact zc_lit _) (by omega) (by omega) ?_
  refine z_aload_nT dL_law_187 rfl ?_
  refine z_iload_n dL_law_188 rfl ?_
  refine z_iconst dL_law_189 ?_
  refine z_iadd dL_law_190 ?_
  refine z_ialdT _ dL_law_191 (by assumption) (by repeat' first | apply zc_add | apply zc_mul | with_reducible exact zc_var _ | exact zc_lit _) (by omega) (by omega) ?_
  refine h_Vi3 (Y' := M_X11_row) dL_law_192 zw_258 zw_259 zw_260 rfl ok_X11_row (by decide) rfl (Nat.le_of_ble_eq_true rfl) ⟨rfl, rfl⟩ (by decide) (by first | assumption | rfl) (c_row hC hO (hx _) (hx _) (hx _)) (fun vv σ2 hq => ?_)
  obtain ⟨rfl, q1, q2⟩ := hq
  have hM1 := MI_fr hM q2
  obtain ⟨σ1, h1⟩ : ∃ z, z = σ2 := ⟨_, rfl⟩
  rw [← h1] at hM1 q1 ⊢
  refine z_aload_n dL_law_195 rfl ?_
  refine z_aload_nT dL_law_196 rfl ?_
  refine z_iload_n dL_law_197 rfl ?_
  refine z_iconst dL_law_198 ?_
  refine z_iadd dL_law_199 ?_
  refine z_ialdT _ dL_law_200 (by assumption) (by repeat' first | apply zc_add | apply zc_mul | with_reducible exact zc_var _ | exact zc_lit _) (by omega) (by omega) ?_
  refine z_aload_nT dL_law_201 rfl ?_
  refine z_iload_n dL_law_202 rfl ?_
  refine z_iconst dL_law_203 ?_
  refine z_iadd dL_law_204 ?_
  refine z_ialdT _ dL_law_205 (by assumption) (by repeat' first | apply zc_add | apply zc_mul | with_reducible exact zc_var _ | exact zc_lit _) (by omega) (by omega) ?_
  refine z_aload_nT dL_law_206 rfl ?_
  refine z_iload_n dL_law_207 rfl ?_
  refine z_iconst dL_law_208 ?_
  refine z_iadd dL_law_209 ?_
  refine z_ialdT _ dL_law_210 (by assumption) (by repeat' first | apply zc_add | apply zc_mul | with_reducible exact zc_var _ | exact zc_lit _) (by omega) (by omega) ?_
  refine h_Vi3 (Y' := M_X12_row) dL_law_211 zw_850 zw_851 zw_852 rfl ok_X12_row (by decide) rfl (Nat.le_of_ble_eq_true rfl) ⟨rfl, rfl⟩ (by decide) (by first | assumption | rfl) (r_row hM1 hO (hx _) (hx _) (hx _)) (fun vv σ2 hq => ?_)
  obtain ⟨rfl, q3, q4⟩ := hq
  refine z_icmp_same (tgt := 1152) dL_law_214 (by decide) ?_
  exact nxt _ _ (CI_fr q1 q4) q3 (ok_row hO)
theorem law_set (h6 : rc 6 = some (N, xs)) (hx : ∀ j, zin (xs j)) (hN : N ≤ 384) (hi : i + 6 ≤ N) (hC : CI σ α) (hM : MI σ α) (hO : OK α) (nxt : ∀ σ α, CI σ α → MI σ α → OK α → Z rc M_L_law 55 2397 1152 (lawL i) [] (hp σ) lawQ) : Z rc M_L_law 55 2397 219 (lawL i) [] (hp σ) lawQ := by
  refine z_aload_n dL_law_219 rfl ?_
  refine z_aload_nT dL_law_220 rfl ?_
  refine z_iload_n dL_law_221 rfl ?_
  refine z_iconst dL_law_222 ?_
  refine z_iadd dL_law_223 ?_
  refine z_ialdT _ dL_law_224 (by assumption) (by repeat' first | apply zc_add | apply zc_mul | with_reducible exact zc_var _ | exact zc_lit _) (by omega) (by omega) ?_
  refine z_aload_nT dL_law_225 rfl ?_
  refine z_iload_n dL_law_226 rfl ?_
  refine z_iconst dL_law_227 ?_
  refine z_iadd dL_law_228 ?_
  refine z_ialdT _ dL_law_229 (by assumption) (by repeat' first | apply zc_add | apply zc_mul | with_reducible exact zc_var _ | exact zc_lit _) (by omega) (by omega) ?_
  refine z_aload_nT dL_law_230 rfl ?_
  refine z_iload_n dL_law_231 rfl ?_
  refine z_iconst dL_law_232 ?_
  refine z_iadd dL_law_233 ?_
  refine z_ialdT _ dL_law_234 (by assumption) (by repeat' first | apply zc_add | apply zc_mul | with_reducible exact zc_var _ | exact zc_lit _) (by omega) (by omega) ?_
  refine h_Vi3 (Y' := M_X11_set) dL_law_235 zw_282 zw_283 zw_284 rfl ok_X11_set (by decide) rfl (Nat.le_of_ble_eq_true rfl) ⟨rfl, rfl⟩ (by decide) (by first | assumption | rfl) (c_set hC hO (hx _) (hx _) (hx _)) (fun vv σ2 hq => ?_)
  obtain ⟨rfl, q1, q2⟩ := hq
  have hM1 := MI_fr hM q2
  obtain ⟨σ1, h1⟩ : ∃ z, z = σ2 := ⟨_, rfl⟩
  rw [← h1] at hM1 q1 ⊢
  refine z_aload_n dL_law_238 rfl ?_
  refine z_aload_nT dL_law_239 rfl ?_
  refine z_iload_n dL_law_240 rfl ?_
  refine z_iconst dL_law_241 ?_
  refine z_iadd dL_law_242 ?_
  refine z_ialdT _ dL_law_243 (by assumption) (by repeat' first | apply zc_add | apply zc_mul | with_reducible exact zc_var _ | exact zc_lit _) (by omega) (by omega) ?_
  refine z_aload_nT dL_law_244 rfl ?_
  refine z_iload_n dL_law_245 rfl ?_
  refine z_iconst dL_law_246 ?_
  refine z_iadd dL_law_247 ?_
  refine z_ialdT _ dL_law_248 (by assumption) (by repeat' first | apply zc_add | apply zc_mul | with_reducible exact zc_var _ | exact zc_lit _) (by omega) (by omega) ?_
  refine z_aload_nT dL_law_249 rfl ?_
  refine z_iload_n dL_law_250 rfl ?_
  refine z_iconst dL_law_251 ?_
  refine z_iadd dL_law_252 ?_
  refine z_ialdT _ dL_law_253 (by assumption) (by repeat' first | apply zc_add | apply zc_mul | with_reducible exact zc_var _ | exact zc_lit _) (by omega) (by omega) ?_
  refine h_Vi3 (Y' := M_X12_set) dL_law_254 zw_870 zw_871 zw_872 rfl ok_X12_set (by decide) rfl (Nat.le_of_ble_eq_true rfl) ⟨rfl, rfl⟩ (by decide) (by first | assumption | rfl) (r_set hM1 hO (hx _) (hx _) (hx _)) (fun vv σ2 hq => ?_)
  obtain ⟨rfl, q3, q4⟩ := hq
  refine z_icmp_same (tgt := 1152) dL_law_257 (by decide) ?_
  exact nxt _ _ (CI_fr q1 q4) q3 (ok_set hO (hx _))
theorem law_copy (h6 : rc 6 = some (N, xs)) (hx : ∀ j, zin (xs j)) (hN : N ≤ 384) (hi : i + 6 ≤ N) (hC : CI σ α) (hM : MI σ α) (hO : OK α) (nxt : ∀ σ α, CI σ α → MI σ α → OK α → Z rc M_L_law 55 2397 1152 (lawL i) [] (hp σ) lawQ) : Z rc M_L_law 55 2397 262 (lawL i) [] (hp σ) lawQ := by
  refine z_aload_n dL_law_262 rfl ?_
  refine z_aload_nT dL_law_263 rfl ?_
  refine z_iload_n dL_law_264 rfl ?_
  refine z_iconst dL_law_265 ?_
  refine z_iadd dL_law_266 ?_
  refine z_ialdT _ dL_law_267 (by assumption) (by repeat' first | apply zc_add | apply zc_mul | with_reducible exact zc_var _ | exact zc_lit _) (by omega) (by omega) ?_
  refine z_aload_nT dL_law_268 rfl ?_
  refine z_iload_n dL_law_269 rfl ?_
  refine z_iconst dL_law_270 ?_
  refine z_iadd dL_law_271 ?_
  refine z_ialdT _ dL_law_272 (by assumption) (by repeat' first | apply zc_add | apply zc_mul | with_reducible exact zc_var _ | exact zc_lit _) (by omega) (by omega) ?_
  refine z_aload_nT dL_law_273 rfl ?_
  refine z_iload_n dL_law_274 rfl ?_
  refine z_iconst dL_law_275 ?_
  refine z_iadd dL_law_276 ?_
  refine z_ialdT _ dL_law_277 (by assumption) (by repeat' first | apply zc_add | apply zc_mul | with_reducible exact zc_var _ | exact zc_lit _) (by omega) (by omega) ?_
  refine z_aload_nT dL_law_278 rfl ?_
  refine z_iload_n dL_law_279 rfl ?_
  refine z_iconst dL_law_280 ?_
  refine z_iadd dL_law_281 ?_
  refine z_ialdT _ dL_law_282 (by assumption) (by repeat' first | apply zc_add | apply zc_mul | with_reducible exact zc_var _ | exact zc_lit _) (by omega) (by omega) ?_
  refine z_aload_nT dL_law_283 rfl ?_
  refine z_iload_n dL_law_284 rfl ?_
  refine z_iconst dL_law_285 ?_
  refine z_iadd dL_law_286 ?_
  refine z_ialdT _ dL_law_287 (by assumption) (by repeat' first | apply zc_add | apply zc_mul | with_reducible exact zc_var _ | exact zc_lit _) (by omega) (by omega) ?_
  refine h_Vi5 (Y' := M_X11_copy) dL_law_288 zw_298 zw_299 zw_300 rfl ok_X11_copy (by decide) rfl (Nat.le_of_ble_eq_true rfl) ⟨rfl, rfl⟩ (by decide) (by first | assumption | rfl) (c_copy hC hO (hx _) (hx _) (hx _) (hx _) (hx _)) (fun vv σ2 hq => ?_)
  obtain ⟨rfl, q1, q2⟩ := hq
  have hM1 := MI_fr hM q2
  obtain ⟨σ1, h1⟩ : ∃ z, z = σ2 := ⟨_, rfl⟩
  rw [← h1] at hM1 q1 ⊢
  refine z_aload_n dL_law_291 rfl ?_
  refine z_aload_nT dL_law_292 rfl ?_
  refine z_iload_n dL_law_293 rfl ?_
  refine z_iconst dL_law_294 ?_
  refine z_iadd dL_law_295 ?_
  refine z_ialdT _ dL_law_296 (by assumption) (by repeat' first | apply zc_add | apply zc_mul | with_reducible exact zc_var _ | exact zc_lit _) (by omega) (by omega) ?_
  refine z_aload_nT dL_law_297 rfl ?_
  refine z_iload_n dL_law_298 rfl ?_
  refine z_iconst dL_law_299 ?_
  refine z_iadd dL_law_300 ?_
  refine z_ialdT _ dL_law_301 (by assumption) (by repeat' first | apply zc_add | apply zc_mul | with_reducible exact zc_var _ | exact zc_lit _) (by omega) (by omega) ?_
  refine z_aload_nT dL_law_302 rfl ?_
  refine z_iload_n dL_law_303 rfl ?_
  refine z_iconst dL_law_304 ?_
  refine z_iadd dL_law_305 ?_
  refine z_ialdT _ dL_law_306 (by assumption) (by repeat' first | apply zc_add | apply zc_mul | with_reducible exact zc_var _ | exact zc_lit _) (by omega) (by omega) ?_
  refine z_aload_nT dL_law_307 rfl ?_
  refine z_iload_n dL_law_308 rfl ?_
  refine z_iconst dL_law_309 ?_
  refine z_iadd dL_law_310 ?_
  refine z_ialdT _ dL_law_311 (by assumption) (by repeat' first | apply zc_add | apply zc_mul | with_reducible exact zc_var _ | exact zc_lit _) (by omega) (by omega) ?_
  refine z_aload_nT dL_law_312 rfl ?_
  refine z_iload_n dL_law_313 rfl ?_
  refine z_iconst dL_law_314 ?_
  refine z_iadd dL_law_315 ?_
  refine z_ialdT _ dL_law_316 (by assumption) (by repeat' first | apply zc_add | apply zc_mul | with_reducible exact zc_var _ | exact zc_lit _) (by omega) (by omega) ?_
  refine h_Vi5 (Y' := M_X12_copy) dL_law_317 zw_874 zw_875 zw_876 rfl ok_X12_copy (by decide) rfl (Nat.le_of_ble_eq_true rfl) ⟨rfl, rfl⟩ (by decide) (by first | assumption | rfl) (r_copy hM1 hO (hx _) (hx _) (hx _) (hx _) (hx _)) (fun vv σ2 hq => ?_)
  obtain ⟨rfl, q3, q4⟩ := hq
  refine z_icmp_same (tgt := 1152) dL_law_320 (by decide) ?_
  exact nxt _ _ (CI_fr q1 q4) q3 (ok_copy hO)
theorem law_drop (h6 : rc 6 = some (N, xs)) (hx : ∀ j, zin (xs j)) (hN : N ≤ 384) (hi : i + 6 ≤ N) (hC : CI σ α) (hM : MI σ α) (hO : OK α) (nxt : ∀ σ α, CI σ α → MI σ α → OK α → Z rc M_L_law 55 2397 1152 (lawL i) [] (hp σ) lawQ) : Z rc M_L_law 55 2397 325 (lawL i) [] (hp σ) lawQ := by
  refine z_aload_n dL_law_325 rfl ?_
  refine z_aload_nT dL_law_326 rfl ?_
  refine z_iload_n dL_law_327 rfl ?_
  refine z_iconst dL_law_328 ?_
  refine z_iadd dL_law_329 ?_
  refine z_ialdT _ dL_law_330 (by assumption) (by repeat' first | apply zc_add | apply zc_mul | with_reducible exact zc_var _ | exact zc_lit _) (by omega) (by omega) ?_
  refine h_Vi1 (Y' := M_X11_drop) dL_law_331 zw_313 zw_314 zw_315 rfl ok_X11_drop (by decide) rfl (Nat.le_of_ble_eq_true rfl) ⟨rfl, rfl⟩ (by decide) (by first | assumption | rfl) (c_drop hC hO (hx _)) (fun vv σ2 hq => ?_)
  obtain ⟨rfl, q1, q2⟩ := hq
  have hM1 := MI_fr hM q2
  obtain ⟨σ1, h1⟩ : ∃ z, z = σ2 := ⟨_, rfl⟩
  rw [← h1] at hM1 q1 ⊢
  refine z_aload_n dL_law_334 rfl ?_
  refine z_aload_nT dL_law_335 rfl ?_
  refine z_iload_n dL_law_336 rfl ?_
  refine z_iconst dL_law_337 ?_
  refine z_iadd dL_law_338 ?_
  refine z_ialdT _ dL_law_339 (by assumption) (by repeat' first | apply zc_add | apply zc_mul | with_reducible exact zc_var _ | exact zc_lit _) (by omega) (by omega) ?_
  refine h_Vi1 (Y' := M_X12_drop) dL_law_340 zw_881 zw_882 zw_883 rfl ok_X12_drop (by decide) rfl (Nat.le_of_ble_eq_true rfl) ⟨rfl, rfl⟩ (by decide) (by first | assumption | rfl) (r_drop hM1 hO (hx _)) (fun vv σ2 hq => ?_)
  obtain ⟨rfl, q3, q4⟩ := hq
  refine z_icmp_same (tgt := 1152) dL_law_343 (by decide) ?_
  exact nxt _ _ (CI_fr q1 q4) q3 (ok_drop hO)
theorem law_feed (h6 : rc 6 = some (N, xs)) (hx : ∀ j, zin (xs j)) (hN : N ≤ 384) (hi : i + 6 ≤ N) (hC : CI σ α) (hM : MI σ α) (hO : OK α) (nxt : ∀ σ α, CI σ α → MI σ α → OK α → Z rc M_L_law 55 2397 1152 (lawL i) [] (hp σ) lawQ) : Z rc M_L_law 55 2397 348 (lawL i) [] (hp σ) lawQ := by
  refine z_aload_n dL_law_348 rfl ?_
  refine z_aload_nT dL_law_349 rfl ?_
  refine z_iload_n dL_law_350 rfl ?_
  refine z_iconst dL_law_351 ?_
  refine z_iadd dL_law_352 ?_
  refine z_ialdT _ dL_law_353 (by assumption) (by repeat' first | apply zc_add | apply zc_mul | with_reducible exact zc_var _ | exact zc_lit _) (by omega) (by omega) ?_
  refine h_Vi1 (Y' := M_X11_feed) dL_law_354 zw_321 zw_322 zw_323 rfl ok_X11_feed (by decide) rfl (Nat.le_of_ble_eq_true rfl) ⟨rfl, rfl⟩ (by decide) (by first | assumption | rfl) (c_feed hC hO (hx _)) (fun vv σ2 hq => ?_)
  obtain ⟨rfl, q1, q2⟩ := hq
  have hM1 := MI_fr hM q2
  obtain ⟨σ1, h1⟩ : ∃ z, z = σ2 := ⟨_, rfl⟩
  rw [← h1] at hM1 q1 ⊢
  refine z_aload_n dL_law_357 rfl ?_
  refine z_aload_nT dL_law_358 rfl ?_
  refine z_iload_n dL_law_359 rfl ?_
  refine z_iconst dL_law_360 ?_
  refine z_iadd dL_law_361 ?_
  refine z_ialdT _ dL_law_362 (by assumption) (by repeat' first | apply zc_add | apply zc_mul | with_reducible exact zc_var _ | exact zc_lit _) (by omega) (by omega) ?_
  refine h_Vi1 (Y' := M_X12_feed) dL_law_363 zw_885 zw_886 zw_887 rfl ok_X12_feed (by decide) rfl (Nat.le_of_ble_eq_true rfl) ⟨rfl, rfl⟩ (by decide) (by first | assumption | rfl) (r_feed hM1 hO (hx _)) (fun vv σ2 hq => ?_)
  obtain ⟨rfl, q3, q4⟩ := hq
  refine z_icmp_same (tgt := 1152) dL_law_366 (by decide) ?_
  exact nxt _ _ (CI_fr q1 q4) q3 (ok_feed hO)
theorem law_coast (r2 : rc 2 = some (5, loL)) (r3 : rc 3 = some (5, hiL)) (r4 : rc 4 = some (3, loP)) (r5 : rc 5 = some (3, hiP)) (h6 : rc 6 = some (N, xs)) (hx : ∀ j, zin (xs j)) (hN : N ≤ 384) (hi : i + 6 ≤ N) (hC : CI σ α) (hM : MI σ α) (hO : OK α) (nxt : ∀ σ α, CI σ α → MI σ α → OK α → Z rc M_L_law 55 2397 1152 (lawL i) [] (hp σ) lawQ) : Z rc M_L_law 55 2397 371 (lawL i) [] (hp σ) lawQ := by
  refine z_aload_n dL_law_371 rfl ?_
  refine h_Vi0 (Y' := M_X11_coast) dL_law_372 zw_334 zw_335 zw_336 rfl ok_X11_coast (by decide) rfl (Nat.le_of_ble_eq_true rfl) ⟨rfl, rfl⟩ (by decide) (by first | assumption | rfl) (c_coast r2 r3 r4 r5 hC hO) (fun vv σ2 hq => ?_)
  obtain ⟨rfl, q1, q2⟩ := hq
  have hM1 := MI_fr hM q2
  obtain ⟨σ1, h1⟩ : ∃ z, z = σ2 := ⟨_, rfl⟩
  rw [← h1] at hM1 q1 ⊢
  refine z_aload_n dL_law_375 rfl ?_
  refine h_Vi0 (Y' := M_X12_coast) dL_law_376 zw_890 zw_891 zw_892 rfl ok_X12_coast (by decide) rfl (Nat.le_of_ble_eq_true rfl) ⟨rfl, rfl⟩ (by decide) (by first | assumption | rfl) (r_coast hM1 hO) (fun vv σ2 hq => ?_)
  obtain ⟨rfl, q3, q4⟩ := hq
  refine z_icmp_same (tgt := 1152) dL_law_379 (by decide) ?_
  exact nxt _ _ (CI_fr q1 q4) q3 (ok_coast hO)
theorem law_fault (h6 : rc 6 = some (N, xs)) (hx : ∀ j, zin (xs j)) (hN : N ≤ 384) (hi : i + 6 ≤ N) (hC : CI σ α) (hM : MI σ α) (hO : OK α) (nxt : ∀ σ α, CI σ α → MI σ α → OK α → Z rc M_L_law 55 2397 1152 (lawL i) [] (hp σ) lawQ) : Z rc M_L_law 55 2397 384 (lawL i) [] (hp σ) lawQ := by
  refine z_aload_n dL_law_384 rfl ?_
  refine h_Vi0 (Y' := M_X11_fault) dL_law_385 zw_409 zw_410 zw_411 rfl ok_X11_fault (by decide) rfl (Nat.le_of_ble_eq_true rfl) ⟨rfl, rfl⟩ (by decide) (by first | assumption | rfl) (c_fault hC) (fun vv σ2 hq => ?_)
  obtain ⟨rfl, q1, q2⟩ := hq
  have hM1 := MI_fr hM q2
  obtain ⟨σ1, h1⟩ : ∃ z, z = σ2 := ⟨_, rfl⟩
  rw [← h1] at hM1 q1 ⊢
  refine z_aload_n dL_law_388 rfl ?_
  refine h_Vi0 (Y' := M_X12_fault) dL_law_389 zw_933 zw_934 zw_935 rfl ok_X12_fault (by decide) rfl (Nat.le_of_ble_eq_true rfl) ⟨rfl, rfl⟩ (by decide) (by first | assumption | rfl) (r_fault hM1) (fun vv σ2 hq => ?_)
  obtain ⟨rfl, q3, q4⟩ := hq
  refine z_icmp_same (tgt := 1152) dL_law_392 (by decide) ?_
  exact nxt _ _ (CI_fr q1 q4) q3 hO
theorem law_seasons (h6 : rc 6 = some (N, xs)) (hx : ∀ j, zin (xs j)) (hN : N ≤ 384) (hi : i + 6 ≤ N) (hC : CI σ α) (hM : MI σ α) (hO : OK α) (nxt : ∀ σ α, CI σ α → MI σ α → OK α → Z rc M_L_law 55 2397 1152 (lawL i) [] (hp σ) lawQ) : Z rc M_L_law 55 2397 397 (lawL i) [] (hp σ) lawQ := by
  refine z_aload_n dL_law_397 rfl ?_
  refine z_aload_nT dL_law_398 rfl ?_
  refine z_iload_n dL_law_399 rfl ?_
  refine z_iconst dL_law_400 ?_
  refine z_iadd dL_law_401 ?_
  refine z_ialdT _ dL_law_402 (by assumption) (by repeat' first | apply zc_add | apply zc_mul | with_reducible exact zc_var _ | exact zc_lit _) (by omega) (by omega) ?_
  refine h_Vi1 (Y' := M_X11_seasons) dL_law_403 zw_413 zw_414 zw_415 rfl ok_X11_seasons (by decide) rfl (Nat.le_of_ble_eq_true rfl) ⟨rfl, rfl⟩ (by decide) (by first | assumption | rfl) (c_seasons hC hO (hx _)) (fun vv σ2 hq => ?_)
  obtain ⟨rfl, q1, q2⟩ := hq
  have hM1 := MI_fr hM q2
  obtain ⟨σ1, h1⟩ : ∃ z, z = σ2 := ⟨_, rfl⟩
  rw [← h1] at hM1 q1 ⊢
  refine z_aload_n dL_law_406 rfl ?_
  refine z_aload_nT dL_law_407 rfl ?_
  refine z_iload_n dL_law_408 rfl ?_
  refine z_iconst dL_law_409 ?_
  refine z_iadd dL_law_410 ?_
  refine z_ialdT _ dL_law_411 (by assumption) (by repeat' first | apply zc_add | apply zc_mul | with_reducible exact zc_var _ | exact zc_lit _) (by omega) (by omega) ?_
  refine h_Vi1 (Y' := M_X12_seasons) dL_law_412 zw_937 zw_938 zw_939 rfl ok_X12_seasons (by decide) rfl (Nat.le_of_ble_eq_true rfl) ⟨rfl, rfl⟩ (by decide) (by first | assumption | rfl) (r_seasons hM1 hO (hx _)) (fun vv σ2 hq => ?_)
  obtain ⟨rfl, q3, q4⟩ := hq
  refine z_icmp_same (tgt := 1152) dL_law_415 (by decide) ?_
  exact nxt _ _ (CI_fr q1 q4) q3 (ok_seas hO)
theorem law_build (h6 : rc 6 = some (N, xs)) (hx : ∀ j, zin (xs j)) (hN : N ≤ 384) (hi : i + 6 ≤ N) (hC : CI σ α) (hM : MI σ α) (hO : OK α) (nxt : ∀ σ α, CI σ α → MI σ α → OK α → Z rc M_L_law 55 2397 1152 (lawL i) [] (hp σ) lawQ) : Z rc M_L_law 55 2397 420 (lawL i) [] (hp σ) lawQ := by
  refine z_aload_n dL_law_420 rfl ?_
  refine z_aload_nT dL_law_421 rfl ?_
  refine z_iload_n dL_law_422 rfl ?_
  refine z_iconst dL_law_423 ?_
  refine z_iadd dL_law_424 ?_
  refine z_ialdT _ dL_law_425 (by assumption) (by repeat' first | apply zc_add | apply zc_mul | with_reducible exact zc_var _ | exact zc_lit _) (by omega) (by omega) ?_
  refine h_Vi1 (Y' := M_X11_build) dL_law_426 zw_464 zw_465 zw_466 rfl ok_X11_build (by decide) rfl (Nat.le_of_ble_eq_true rfl) ⟨rfl, rfl⟩ (by decide) (by first | assumption | rfl) (c_build hC hO (hx _)) (fun vv σ2 hq => ?_)
  obtain ⟨rfl, q1, q2⟩ := hq
  have hM1 := MI_fr hM q2
  obtain ⟨σ1, h1⟩ : ∃ z, z = σ2 := ⟨_, rfl⟩
  rw [← h1] at hM1 q1 ⊢
  refine z_aload_n dL_law_429 rfl ?_
  refine z_aload_nT dL_law_430 rfl ?_
  refine z_iload_n dL_law_431 rfl ?_
  refine z_iconst dL_law_432 ?_
  refine z_iadd dL_law_433 ?_
  refine z_ialdT _ dL_law_434 (by assumption) (by repeat' first | apply zc_add | apply zc_mul | with_reducible exact zc_var _ | exact zc_lit _) (by omega) (by omega) ?_
  refine h_Vi1 (Y' := M_X12_build) dL_law_435 zw_971 zw_972 zw_973 rfl ok_X12_build (by decide) rfl (Nat.le_of_ble_eq_true rfl) ⟨rfl, rfl⟩ (by decide) (by first | assumption | rfl) (r_build hM1 hO (hx _)) (fun vv σ2 hq => ?_)
  obtain ⟨rfl, q3, q4⟩ := hq
  refine z_icmp_same (tgt := 1152) dL_law_438 (by decide) ?_
  exact nxt _ _ (CI_fr q1 q4) q3 (ok_build hO)
theorem law_turn (h6 : rc 6 = some (N, xs)) (hx : ∀ j, zin (xs j)) (hN : N ≤ 384) (hi : i + 6 ≤ N) (hC : CI σ α) (hM : MI σ α) (hO : OK α) (nxt : ∀ σ α, CI σ α → MI σ α → OK α → Z rc M_L_law 55 2397 1152 (lawL i) [] (hp σ) lawQ) : Z rc M_L_law 55 2397 443 (lawL i) [] (hp σ) lawQ := by
  refine z_aload_n dL_law_443 rfl ?_
  refine z_aload_nT dL_law_444 rfl ?_
  refine z_iload_n dL_law_445 rfl ?_
  refine z_iconst dL_law_446 ?_
  refine z_iadd dL_law_447 ?_
  refine z_ialdT _ dL_law_448 (by assumption) (by repeat' first | apply zc_add | apply zc_mul | with_reducible exact zc_var _ | exact zc_lit _) (by omega) (by omega) ?_
  refine z_aload_nT dL_law_449 rfl ?_
  refine z_iload_n dL_law_450 rfl ?_
  refine z_iconst dL_law_451 ?_
  refine z_iadd dL_law_452 ?_
  refine z_ialdT _ dL_law_453 (by assumption) (by repeat' first | apply zc_add | apply zc_mul | with_reducible exact zc_var _ | exact zc_lit _) (by omega) (by omega) ?_
  refine h_Vi2 (Y' := M_X11_turn) dL_law_454 zw_476 zw_477 zw_478 rfl ok_X11_turn (by decide) rfl (Nat.le_of_ble_eq_true rfl) ⟨rfl, rfl⟩ (by decide) (by first | assumption | rfl) (c_turn hC hO (hx _) (hx _)) (fun vv σ2 hq => ?_)
  obtain ⟨rfl, q1, q2⟩ := hq
  have hM1 := MI_fr hM q2
  obtain ⟨σ1, h1⟩ : ∃ z, z = σ2 := ⟨_, rfl⟩
  rw [← h1] at hM1 q1 ⊢
  refine z_aload_n dL_law_457 rfl ?_
  refine z_aload_nT dL_law_458 rfl ?_
  refine z_iload_n dL_law_459 rfl ?_
  refine z_iconst dL_law_460 ?_
  refine z_iadd dL_law_461 ?_
  refine z_ialdT _ dL_law_462 (by assumption) (by repeat' first | apply zc_add | apply zc_mul | with_reducible exact zc_var _ | exact zc_lit _) (by omega) (by omega) ?_
  refine z_aload_nT dL_law_463 rfl ?_
  refine z_iload_n dL_law_464 rfl ?_
  refine z_iconst dL_law_465 ?_
  refine z_iadd dL_law_466 ?_
  refine z_ialdT _ dL_law_467 (by assumption) (by repeat' first | apply zc_add | apply zc_mul | with_reducible exact zc_var _ | exact zc_lit _) (by omega) (by omega) ?_
  refine h_Vi2 (Y' := M_X12_turn) dL_law_468 zw_979 zw_980 zw_981 rfl ok_X12_turn (by decide) rfl (Nat.le_of_ble_eq_true rfl) ⟨rfl, rfl⟩ (by decide) (by first | assumption | rfl) (r_turn hM1 hO (hx _) (hx _)) (fun vv σ2 hq => ?_)
  obtain ⟨rfl, q3, q4⟩ := hq
  refine z_icmp_same (tgt := 1152) dL_law_471 (by decide) ?_
  exact nxt _ _ (CI_fr q1 q4) q3 (ok_turn hO)
theorem law_buy (h6 : rc 6 = some (N, xs)) (hx : ∀ j, zin (xs j)) (hN : N ≤ 384) (hi : i + 6 ≤ N) (hC : CI σ α) (hM : MI σ α) (hO : OK α) (nxt : ∀ σ α, CI σ α → MI σ α → OK α → Z rc M_L_law 55 2397 1152 (lawL i) [] (hp σ) lawQ) : Z rc M_L_law 55 2397 476 (lawL i) [] (hp σ) lawQ := by
  refine z_aload_n dL_law_476 rfl ?_
  refine z_aload_nT dL_law_477 rfl ?_
  refine z_iload_n dL_law_478 rfl ?_
  refine z_iconst dL_law_479 ?_
  refine z_iadd dL_law_480 ?_
  refine z_ialdT _ dL_law_481 (by assumption) (by repeat' first | apply zc_add | apply zc_mul | with_reducible exact zc_var _ | exact zc_lit _) (by omega) (by omega) ?_
  refine h_Vi1 (Y' := M_X11_buy) dL_law_482 zw_480 zw_481 zw_482 rfl ok_X11_buy (by decide) rfl (Nat.le_of_ble_eq_true rfl) ⟨rfl, rfl⟩ (by decide) (by first | assumption | rfl) (c_buy hC hO (hx _)) (fun vv σ2 hq => ?_)
  obtain ⟨rfl, q1, q2⟩ := hq
  have hM1 := MI_fr hM q2
  obtain ⟨σ1, h1⟩ : ∃ z, z = σ2 := ⟨_, rfl⟩
  rw [← h1] at hM1 q1 ⊢
  refine z_aload_n dL_law_485 rfl ?_
  refine z_aload_nT dL_law_486 rfl ?_
  refine z_iload_n dL_law_487 rfl ?_
  refine z_iconst dL_law_488 ?_
  refine z_iadd dL_law_489 ?_
  refine z_ialdT _ dL_law_490 (by assumption) (by repeat' first | apply zc_add | apply zc_mul | with_reducible exact zc_var _ | exact zc_lit _) (by omega) (by omega) ?_
  refine h_Vi1 (Y' := M_X12_buy) dL_law_491 zw_983 zw_984 zw_985 rfl ok_X12_buy (by decide) rfl (Nat.le_of_ble_eq_true rfl) ⟨rfl, rfl⟩ (by decide) (by first | assumption | rfl) (r_buy hM1 hO (hx _)) (fun vv σ2 hq => ?_)
  obtain ⟨rfl, q3, q4⟩ := hq
  refine z_icmp_same (tgt := 1152) dL_law_494 (by decide) ?_
  exact nxt _ _ (CI_fr q1 q4) q3 (ok_buy hO)
theorem law_undo (h6 : rc 6 = some (N, xs)) (hx : ∀ j, zin (xs j)) (hN : N ≤ 384) (hi : i + 6 ≤ N) (hC : CI σ α) (hM : MI σ α) (hO : OK α) (nxt : ∀ σ α, CI σ α → MI σ α → OK α → Z rc M_L_law 55 2397 1152 (lawL i) [] (hp σ) lawQ) : Z rc M_L_law 55 2397 499 (lawL i) [] (hp σ) lawQ := by
  refine z_aload_n dL_law_499 rfl ?_
  refine h_Vi0 (Y' := M_X11_undo) dL_law_500 zw_484 zw_485 zw_486 rfl ok_X11_undo (by decide) rfl (Nat.le_of_ble_eq_true rfl) ⟨rfl, rfl⟩ (by decide) (by first | assumption | rfl) (c_undo hC hO) (fun vv σ2 hq => ?_)
  obtain ⟨rfl, q1, q2⟩ := hq
  have hM1 := MI_fr hM q2
  obtain ⟨σ1, h1⟩ : ∃ z, z = σ2 := ⟨_, rfl⟩
  rw [← h1] at hM1 q1 ⊢
  refine z_aload_n dL_law_503 rfl ?_
  refine h_Vi0 (Y' := M_X12_undo) dL_law_504 zw_987 zw_988 zw_989 rfl ok_X12_undo (by decide) rfl (Nat.le_of_ble_eq_true rfl) ⟨rfl, rfl⟩ (by decide) (by first | assumption | rfl) (r_undo hM1 hO) (fun vv σ2 hq => ?_)
  obtain ⟨rfl, q3, q4⟩ := hq
  refine z_icmp_same (tgt := 1152) dL_law_507 (by decide) ?_
  exact nxt _ _ (CI_fr q1 q4) q3 (ok_undo hO)
theorem law_pier (h6 : rc 6 = some (N, xs)) (hx : ∀ j, zin (xs j)) (hN : N ≤ 384) (hi : i + 6 ≤ N) (hC : CI σ α) (hM : MI σ α) (hO : OK α) (nxt : ∀ σ α, CI σ α → MI σ α → OK α → Z rc M_L_law 55 2397 1152 (lawL i) [] (hp σ) lawQ) : Z rc M_L_law 55 2397 512 (lawL i) [] (hp σ) lawQ := by
  refine z_aload_n dL_law_512 rfl ?_
  refine z_aload_nT dL_law_513 rfl ?_
  refine z_iload_n dL_law_514 rfl ?_
  refine z_iconst dL_law_515 ?_
  refine z_iadd dL_law_516 ?_
  refine z_ialdT _ dL_law_517 (by assumption) (by repeat' first | apply zc_add | apply zc_mul | with_reducible exact zc_var _ | exact zc_lit _) (by omega) (by omega) ?_
  refine z_aload_nT dL_law_518 rfl ?_
  refine z_iload_n dL_law_519 rfl ?_
  refine z_iconst dL_law_520 ?_
  refine z_iadd dL_law_521 ?_
  refine z_ialdT _ dL_law_522 (by assumption) (by repeat' first | apply zc_add | apply zc_mul | with_reducible exact zc_var _ | exact zc_lit _) (by omega) (by omega) ?_
  refine h_Vi2 (Y' := M_X11_pier) dL_law_523 zw_496 zw_497 zw_498 rfl ok_X11_pier (by decide) rfl (Nat.le_of_ble_eq_true rfl) ⟨rfl, rfl⟩ (by decide) (by first | assumption | rfl) (c_pier hC hO (hx _) (hx _)) (fun vv σ2 hq => ?_)
  obtain ⟨rfl, q1, q2⟩ := hq
  have hM1 := MI_fr hM q2
  obtain ⟨σ1, h1⟩ : ∃ z, z = σ2 := ⟨_, rfl⟩
  rw [← h1] at hM1 q1 ⊢
  refine z_aload_n dL_law_526 rfl ?_
  refine z_aload_nT dL_law_527 rfl ?_
  refine z_iload_n dL_law_528 rfl ?_
  refine z_iconst dL_law_529 ?_
  refine z_iadd dL_law_530 ?_
  refine z_ialdT _ dL_law_531 (by assumption) (by repeat' first | apply zc_add | apply zc_mul | with_reducible exact zc_var _ | exact zc_lit _) (by omega) (by omega) ?_
  refine z_aload_nT dL_law_532 rfl ?_
  refine z_iload_n dL_law_533 rfl ?_
  refine z_iconst dL_law_534 ?_
  refine z_iadd dL_law_535 ?_
  refine z_ialdT _ dL_law_536 (by assumption) (by repeat' first | apply zc_add | apply zc_mul | with_reducible exact zc_var _ | exact zc_lit _) (by omega) (by omega) ?_
  refine h_Vi2 (Y' := M_X12_pier) dL_law_537 zw_991 zw_992 zw_993 rfl ok_X12_pier (by decide) rfl (Nat.le_of_ble_eq_true rfl) ⟨rfl, rfl⟩ (by decide) (by first | assumption | rfl) (r_pier hM1 hO (hx _) (hx _)) (fun vv σ2 hq => ?_)
  obtain ⟨rfl, q3, q4⟩ := hq
  refine z_icmp_same (tgt := 1152) dL_law_540 (by decide) ?_
  exact nxt _ _ (CI_fr q1 q4) q3 hO
theorem law_ahead (h6 : rc 6 = some (N, xs)) (hx : ∀ j, zin (xs j)) (hN : N ≤ 384) (hi : i + 6 ≤ N) (hC : CI σ α) (hM : MI σ α) (hO : OK α) (nxt : ∀ σ α, CI σ α → MI σ α → OK α → Z rc M_L_law 55 2397 1152 (lawL i) [] (hp σ) lawQ) : Z rc M_L_law 55 2397 545 (lawL i) [] (hp σ) lawQ := by
  refine z_aload_n dL_law_545 rfl ?_
  refine z_aload_nT dL_law_546 rfl ?_
  refine z_iload_n dL_law_547 rfl ?_
  refine z_iconst dL_law_548 ?_
  refine z_iadd dL_law_549 ?_
  refine z_ialdT _ dL_law_550 (by assumption) (by repeat' first | apply zc_add | apply zc_mul | with_reducible exact zc_var _ | exact zc_lit _) (by omega) (by omega) ?_
  refine z_aload_nT dL_law_551 rfl ?_
  refine z_iload_n dL_law_552 rfl ?_
  refine z_iconst dL_law_553 ?_
  refine z_iadd dL_law_554 ?_
  refine z_ialdT _ dL_law_555 (by assumption) (by repeat' first | apply zc_add | apply zc_mul | with_reducible exact zc_var _ | exact zc_lit _) (by omega) (by omega) ?_
  refine z_aload_nT dL_law_556 rfl ?_
  refine z_iload_n dL_law_557 rfl ?_
  refine z_iconst dL_law_558 ?_
  refine z_iadd dL_law_559 ?_
  refine z_ialdT _ dL_law_560 (by assumption) (by repeat' first | apply zc_add | apply zc_mul | with_reducible exact zc_var _ | exact zc_lit _) (by omega) (by omega) ?_
  refine h_Vi3 (Y' := M_X11_ahead) dL_law_561 zw_503 zw_504 zw_505 rfl ok_X11_ahead (by decide) rfl (Nat.le_of_ble_eq_true rfl) ⟨rfl, rfl⟩ (by decide) (by first | assumption | rfl) (c_ahead hC hO (hx _) (hx _) (hx _)) (fun vv σ2 hq => ?_)
  obtain ⟨rfl, q1, q2⟩ := hq
  have hM1 := MI_fr hM q2
  obtain ⟨σ1, h1⟩ : ∃ z, z = σ2 := ⟨_, rfl⟩
  rw [← h1] at hM1 q1 ⊢
  refine z_aload_n dL_law_564 rfl ?_
  refine z_aload_nT dL_law_565 rfl ?_
  refine z_iload_n dL_law_566 rfl ?_
  refine z_iconst dL_law_567 ?_
  refine z_iadd dL_law_568 ?_
  refine z_ialdT _ dL_law_569 (by assumption) (by repeat' first | apply zc_add | apply zc_mul | with_reducible exact zc_var _ | exact zc_lit _) (by omega) (by omega) ?_
  refine z_aload_nT dL_law_570 rfl ?_
  refine z_iload_n dL_law_571 rfl ?_
  refine z_iconst dL_law_572 ?_
  refine z_iadd dL_law_573 ?_
  refine z_ialdT _ dL_law_574 (by assumption) (by repeat' first | apply zc_add | apply zc_mul | with_reducible exact zc_var _ | exact zc_lit _) (by omega) (by omega) ?_
  refine z_aload_nT dL_law_575 rfl ?_
  refine z_iload_n dL_law_576 rfl ?_
  refine z_iconst dL_law_577 ?_
  refine z_iadd dL_law_578 ?_
  refine z_ialdT _ dL_law_579 (by assumption) (by repeat' first | apply zc_add | apply zc_mul | with_reducible exact zc_var _ | exact zc_lit _) (by omega) (by omega) ?_
  refine h_Vi3 (Y' := M_X12_ahead) dL_law_580 zw_995 zw_996 zw_997 rfl ok_X12_ahead (by decide) rfl (Nat.le_of_ble_eq_true rfl) ⟨rfl, rfl⟩ (by decide) (by first | assumption | rfl) (r_ahead hM1 hO (hx _) (hx _) (hx _)) (fun vv σ2 hq => ?_)
  obtain ⟨rfl, q3, q4⟩ := hq
  refine z_icmp_same (tgt := 1152) dL_law_583 (by decide) ?_
  exact nxt _ _ (CI_fr q1 q4) q3 hO
theorem law_purse (h6 : rc 6 = some (N, xs)) (hx : ∀ j, zin (xs j)) (hN : N ≤ 384) (hi : i + 6 ≤ N) (hC : CI σ α) (hM : MI σ α) (hO : OK α) (nxt : ∀ σ α, CI σ α → MI σ α → OK α → Z rc M_L_law 55 2397 1152 (lawL i) [] (hp σ) lawQ) : Z rc M_L_law 55 2397 588 (lawL i) [] (hp σ) lawQ := by
  refine z_aload_n dL_law_588 rfl ?_
  refine z_aload_nT dL_law_589 rfl ?_
  refine z_iload_n dL_law_590 rfl ?_
  refine z_iconst dL_law_591 ?_
  refine z_iadd dL_law_592 ?_
  refine z_ialdT _ dL_law_593 (by assumption) (by repeat' first | apply zc_add | apply zc_mul | with_reducible exact zc_var _ | exact zc_lit _) (by omega) (by omega) ?_
  refine h_Vi1 (Y' := M_X11_purse) dL_law_594 zw_520 zw_521 zw_522 rfl ok_X11_purse (by decide) rfl (Nat.le_of_ble_eq_true rfl) ⟨rfl, rfl⟩ (by decide) (by first | assumption | rfl) (c_purse hC hO (hx _)) (fun vv σ2 hq => ?_)
  obtain ⟨rfl, q1, q2⟩ := hq
  have hM1 := MI_fr hM q2
  obtain ⟨σ1, h1⟩ : ∃ z, z = σ2 := ⟨_, rfl⟩
  rw [← h1] at hM1 q1 ⊢
  refine z_aload_n dL_law_597 rfl ?_
  refine z_aload_nT dL_law_598 rfl ?_
  refine z_iload_n dL_law_599 rfl ?_
  refine z_iconst dL_law_600 ?_
  refine z_iadd dL_law_601 ?_
  refine z_ialdT _ dL_law_602 (by assumption) (by repeat' first | apply zc_add | apply zc_mul | with_reducible exact zc_var _ | exact zc_lit _) (by omega) (by omega) ?_
  refine h_Vi1 (Y' := M_X12_purse) dL_law_603 zw_1007 zw_1008 zw_1009 rfl ok_X12_purse (by decide) rfl (Nat.le_of_ble_eq_true rfl) ⟨rfl, rfl⟩ (by decide) (by first | assumption | rfl) (r_purse hM1 hO (hx _)) (fun vv σ2 hq => ?_)
  obtain ⟨rfl, q3, q4⟩ := hq
  refine z_icmp_same (tgt := 1152) dL_law_606 (by decide) ?_
  exact nxt _ _ (CI_fr q1 q4) q3 hO
theorem law_gone (h6 : rc 6 = some (N, xs)) (hx : ∀ j, zin (xs j)) (hN : N ≤ 384) (hi : i + 6 ≤ N) (hC : CI σ α) (hM : MI σ α) (hO : OK α) (nxt : ∀ σ α, CI σ α → MI σ α → OK α → Z rc M_L_law 55 2397 1152 (lawL i) [] (hp σ) lawQ) : Z rc M_L_law 55 2397 611 (lawL i) [] (hp σ) lawQ := by
  refine z_aload_n dL_law_611 rfl ?_
  refine z_aload_nT dL_law_612 rfl ?_
  refine z_iload_n dL_law_613 rfl ?_
  refine z_iconst dL_law_614 ?_
  refine z_iadd dL_law_615 ?_
  refine z_ialdT _ dL_law_616 (by assumption) (by repeat' first | apply zc_add | apply zc_mul | with_reducible exact zc_var _ | exact zc_lit _) (by omega) (by omega) ?_
  refine h_Vi1 (Y' := M_X11_gone) dL_law_617 zw_524 zw_525 zw_526 rfl ok_X11_gone (by decide) rfl (Nat.le_of_ble_eq_true rfl) ⟨rfl, rfl⟩ (by decide) (by first | assumption | rfl) (c_gone hC hO (hx _)) (fun vv σ2 hq => ?_)
  obtain ⟨rfl, q1, q2⟩ := hq
  have hM1 := MI_fr hM q2
  obtain ⟨σ1, h1⟩ : ∃ z, z = σ2 := ⟨_, rfl⟩
  rw [← h1] at hM1 q1 ⊢
  refine z_aload_n dL_law_620 rfl ?_
  refine z_aload_nT dL_law_621 rfl ?_
  refine z_iload_n dL_law_622 rfl ?_
  refine z_iconst dL_law_623 ?_
  refine z_iadd dL_law_624 ?_
  refine z_ialdT _ dL_law_625 (by assumption) (by repeat' first | apply zc_add | apply zc_mul | with_reducible exact zc_var _ | exact zc_lit _) (by omega) (by omega) ?_
  refine h_Vi1 (Y' := M_X12_gone) dL_law_626 zw_1011 zw_1012 zw_1013 rfl ok_X12_gone (by decide) rfl (Nat.le_of_ble_eq_true rfl) ⟨rfl, rfl⟩ (by decide) (by first | assumption | rfl) (r_gone hM1 hO (hx _)) (fun vv σ2 hq => ?_)
  obtain ⟨rfl, q3, q4⟩ := hq
  refine z_icmp_same (tgt := 1152) dL_law_629 (by decide) ?_
  exact nxt _ _ (CI_fr q1 q4) q3 hO
theorem law_aim (h6 : rc 6 = some (N, xs)) (hx : ∀ j, zin (xs j)) (hN : N ≤ 384) (hi : i + 6 ≤ N) (hC : CI σ α) (hM : MI σ α) (hO : OK α) (nxt : ∀ σ α, CI σ α → MI σ α → OK α → Z rc M_L_law 55 2397 1152 (lawL i) [] (hp σ) lawQ) : Z rc M_L_law 55 2397 634 (lawL i) [] (hp σ) lawQ := by
  refine z_aload_n dL_law_634 rfl ?_
  refine z_aload_nT dL_law_635 rfl ?_
  refine z_iload_n dL_law_636 rfl ?_
  refine z_iconst dL_law_637 ?_
  refine z_iadd dL_law_638 ?_
  refine z_ialdT _ dL_law_639 (by assumption) (by repeat' first | apply zc_add | apply zc_mul | with_reducible exact zc_var _ | exact zc_lit _) (by omega) (by omega) ?_
  refine z_aload_nT dL_law_640 rfl ?_
  refine z_iload_n dL_law_641 rfl ?_
  refine z_iconst dL_law_642 ?_
  refine z_iadd dL_law_643 ?_
  refine z_ialdT _ dL_law_644 (by assumption) (by repeat' first | apply zc_add | apply zc_mul | with_reducible exact zc_var _ | exact zc_lit _) (by omega) (by omega) ?_
  refine z_aload_nT dL_law_645 rfl ?_
  refine z_iload_n dL_law_646 rfl ?_
  refine z_iconst dL_law_647 ?_
  refine z_iadd dL_law_648 ?_
  refine z_ialdT _ dL_law_649 (by assumption) (by repeat' first | apply zc_add | apply zc_mul | with_reducible exact zc_var _ | exact zc_lit _) (by omega) (by omega) ?_
  refine z_aload_nT dL_law_650 rfl ?_
  refine z_iload_n dL_law_651 rfl ?_
  refine z_iconst dL_law_652 ?_
  refine z_iadd dL_law_653 ?_
  refine z_ialdT _ dL_law_654 (by assumption) (by repeat' first | apply zc_add | apply zc_mul | with_reducible exact zc_var _ | exact zc_lit _) (by omega) (by omega) ?_
  refine h_Vi4 (Y' := M_X11_aim) dL_law_655 zw_529 zw_530 zw_531 rfl ok_X11_aim (by decide) rfl (Nat.le_of_ble_eq_true rfl) ⟨rfl, rfl⟩ (by decide) (by first | assumption | rfl) (c_aim hC hO (hx _) (hx _) (hx _) (hx _)) (fun vv σ2 hq => ?_)
  obtain ⟨rfl, q1, q2⟩ := hq
  have hM1 := MI_fr hM q2
  obtain ⟨σ1, h1⟩ : ∃ z, z = σ2 := ⟨_, rfl⟩
  rw [← h1] at hM1 q1 ⊢
  refine z_aload_n dL_law_658 rfl ?_
  refine z_aload_nT dL_law_659 rfl ?_
  refine z_iload_n dL_law_660 rfl ?_
  refine z_iconst dL_law_661 ?_
  refine z_iadd dL_law_662 ?_
  refine z_ialdT _ dL_law_663 (by assumption) (by repeat' first | apply zc_add | apply zc_mul | with_reducible exact zc_var _ | exact zc_lit _) (by omega) (by omega) ?_
  refine z_aload_nT dL_law_664 rfl ?_
  refine z_iload_n dL_law_665 rfl ?_
  refine z_iconst dL_law_666 ?_
  refine z_iadd dL_law_667 ?_
  refine z_ialdT _ dL_law_668 (by assumption) (by repeat' first | apply zc_add | apply zc_mul | with_reducible exact zc_var _ | exact zc_lit _) (by omega) (by omega) ?_
  refine z_aload_nT dL_law_669 rfl ?_
  refine z_iload_n dL_law_670 rfl ?_
  refine z_iconst dL_law_671 ?_
  refine z_iadd dL_law_672 ?_
  refine z_ialdT _ dL_law_673 (by assumption) (by repeat' first | apply zc_add | apply zc_mul | with_reducible exact zc_var _ | exact zc_lit _) (by omega) (by omega) ?_
  refine z_aload_nT dL_law_674 rfl ?_
  refine z_iload_n dL_law_675 rfl ?_
  refine z_iconst dL_law_676 ?_
  refine z_iadd dL_law_677 ?_
  refine z_ialdT _ dL_law_678 (by assumption) (by repeat' first | apply zc_add | apply zc_mul | with_reducible exact zc_var _ | exact zc_lit _) (by omega) (by omega) ?_
  refine h_Vi4 (Y' := M_X12_aim) dL_law_679 zw_1016 zw_1017 zw_1018 rfl ok_X12_aim (by decide) rfl (Nat.le_of_ble_eq_true rfl) ⟨rfl, rfl⟩ (by decide) (by first | assumption | rfl) (r_aim hM1 hO (hx _) (hx _) (hx _) (hx _)) (fun vv σ2 hq => ?_)
  obtain ⟨rfl, q3, q4⟩ := hq
  refine z_icmp_same (tgt := 1152) dL_law_682 (by decide) ?_
  exact nxt _ _ (CI_fr q1 q4) q3 hO
theorem law_take (h6 : rc 6 = some (N, xs)) (hx : ∀ j, zin (xs j)) (hN : N ≤ 384) (hi : i + 6 ≤ N) (hC : CI σ α) (hM : MI σ α) (hO : OK α) (nxt : ∀ σ α, CI σ α → MI σ α → OK α → Z rc M_L_law 55 2397 1152 (lawL i) [] (hp σ) lawQ) : Z rc M_L_law 55 2397 687 (lawL i) [] (hp σ) lawQ := by
  refine z_aload_n dL_law_687 rfl ?_
  refine z_aload_nT dL_law_688 rfl ?_
  refine z_iload_n dL_law_689 rfl ?_
  refine z_iconst dL_law_690 ?_
  refine z_iadd dL_law_691 ?_
  refine z_ialdT _ dL_law_692 (by assumption) (by repeat' first | apply zc_add | apply zc_mul | with_reducible exact zc_var _ | exact zc_lit _) (by omega) (by omega) ?_
  refine z_aload_nT dL_law_693 rfl ?_
  refine z_iload_n dL_law_694 rfl ?_
  refine z_iconst dL_law_695 ?_
  refine z_iadd dL_law_696 ?_
  refine z_ialdT _ dL_law_697 (by assumption) (by repeat' first | apply zc_add | apply zc_mul | with_reducible exact zc_var _ | exact zc_lit _) (by omega) (by omega) ?_
  refine h_Vi2 (Y' := M_X11_take) dL_law_698 zw_537 zw_538 zw_539 rfl ok_X11_take (by decide) rfl (Nat.le_of_ble_eq_true rfl) ⟨rfl, rfl⟩ (by decide) (by first | assumption | rfl) (c_take hC hO (hx _) (hx _)) (fun vv σ2 hq => ?_)
  obtain ⟨rfl, q1, q2⟩ := hq
  have hM1 := MI_fr hM q2
  obtain ⟨σ1, h1⟩ : ∃ z, z = σ2 := ⟨_, rfl⟩
  rw [← h1] at hM1 q1 ⊢
  refine z_aload_n dL_law_701 rfl ?_
  refine z_aload_nT dL_law_702 rfl ?_
  refine z_iload_n dL_law_703 rfl ?_
  refine z_iconst dL_law_704 ?_
  refine z_iadd dL_law_705 ?_
  refine z_ialdT _ dL_law_706 (by assumption) (by repeat' first | apply zc_add | apply zc_mul | with_reducible exact zc_var _ | exact zc_lit _) (by omega) (by omega) ?_
  refine z_aload_nT dL_law_707 rfl ?_
  refine z_iload_n dL_law_708 rfl ?_
  refine z_iconst dL_law_709 ?_
  refine z_iadd dL_law_710 ?_
  refine z_ialdT _ dL_law_711 (by assumption) (by repeat' first | apply zc_add | apply zc_mul | with_reducible exact zc_var _ | exact zc_lit _) (by omega) (by omega) ?_
  refine h_Vi2 (Y' := M_X12_take) dL_law_712 zw_1020 zw_1021 zw_1022 rfl ok_X12_take (by decide) rfl (Nat.le_of_ble_eq_true rfl) ⟨rfl, rfl⟩ (by decide) (by first | assumption | rfl) (r_take hM1 hO (hx _) (hx _)) (fun vv σ2 hq => ?_)
  obtain ⟨rfl, q3, q4⟩ := hq
  refine z_icmp_same (tgt := 1152) dL_law_715 (by decide) ?_
  exact nxt _ _ (CI_fr q1 q4) q3 hO
theorem law_give (h6 : rc 6 = some (N, xs)) (hx : ∀ j, zin (xs j)) (hN : N ≤ 384) (hi : i + 6 ≤ N) (hC : CI σ α) (hM : MI σ α) (hO : OK α) (nxt : ∀ σ α, CI σ α → MI σ α → OK α → Z rc M_L_law 55 2397 1152 (lawL i) [] (hp σ) lawQ) : Z rc M_L_law 55 2397 720 (lawL i) [] (hp σ) lawQ := by
  refine z_aload_n dL_law_720 rfl ?_
  refine z_aload_nT dL_law_721 rfl ?_
  refine z_iload_n dL_law_722 rfl ?_
  refine z_iconst dL_law_723 ?_
  refine z_iadd dL_law_724 ?_
  refine z_ialdT _ dL_law_725 (by assumption) (by repeat' first | apply zc_add | apply zc_mul | with_reducible exact zc_var _ | exact zc_lit _) (by omega) (by omega) ?_
  refine z_aload_nT dL_law_726 rfl ?_
  refine z_iload_n dL_law_727 rfl ?_
  refine z_iconst dL_law_728 ?_
  refine z_iadd dL_law_729 ?_
  refine z_ialdT _ dL_law_730 (by assumption) (by repeat' first | apply zc_add | apply zc_mul | with_reducible exact zc_var _ | exact zc_lit _) (by omega) (by omega) ?_
  refine h_Vi2 (Y' := M_X11_give) dL_law_731 zw_542 zw_543 zw_544 rfl ok_X11_give (by decide) rfl (Nat.le_of_ble_eq_true rfl) ⟨rfl, rfl⟩ (by decide) (by first | assumption | rfl) (c_give hC hO (hx _) (hx _)) (fun vv σ2 hq => ?_)
  obtain ⟨rfl, q1, q2⟩ := hq
  have hM1 := MI_fr hM q2
  obtain ⟨σ1, h1⟩ : ∃ z, z = σ2 := ⟨_, rfl⟩
  rw [← h1] at hM1 q1 ⊢
  refine z_aload_n dL_law_734 rfl ?_
  refine z_aload_nT dL_law_735 rfl ?_
  refine z_iload_n dL_law_736 rfl ?_
  refine z_iconst dL_law_737 ?_
  refine z_iadd dL_law_738 ?_
  refine z_ialdT _ dL_law_739 (by assumption) (by repeat' first | apply zc_add | apply zc_mul | with_reducible exact zc_var _ | exact zc_lit _) (by omega) (by omega) ?_
  refine z_aload_nT dL_law_740 rfl ?_
  refine z_iload_n dL_law_741 rfl ?_
  refine z_iconst dL_law_742 ?_
  refine z_iadd dL_law_743 ?_
  refine z_ialdT _ dL_law_744 (by assumption) (by repeat' first | apply zc_add | apply zc_mul | with_reducible exact zc_var _ | exact zc_lit _) (by omega) (by omega) ?_
  refine h_Vi2 (Y' := M_X12_give) dL_law_745 zw_1024 zw_1025 zw_1026 rfl ok_X12_give (by decide) rfl (Nat.le_of_ble_eq_true rfl) ⟨rfl, rfl⟩ (by decide) (by first | assumption | rfl) (r_give hM1 hO (hx _) (hx _)) (fun vv σ2 hq => ?_)
  obtain ⟨rfl, q3, q4⟩ := hq
  refine z_icmp_same (tgt := 1152) dL_law_748 (by decide) ?_
  exact nxt _ _ (CI_fr q1 q4) q3 hO
theorem law_turning (h6 : rc 6 = some (N, xs)) (hx : ∀ j, zin (xs j)) (hN : N ≤ 384) (hi : i + 6 ≤ N) (hC : CI σ α) (hM : MI σ α) (hO : OK α) (nxt : ∀ σ α, CI σ α → MI σ α → OK α → Z rc M_L_law 55 2397 1152 (lawL i) [] (hp σ) lawQ) : Z rc M_L_law 55 2397 753 (lawL i) [] (hp σ) lawQ := by
  refine z_aload_n dL_law_753 rfl ?_
  refine z_aload_nT dL_law_754 rfl ?_
  refine z_iload_n dL_law_755 rfl ?_
  refine z_iconst dL_law_756 ?_
  refine z_iadd dL_law_757 ?_
  refine z_ialdT _ dL_law_758 (by assumption) (by repeat' first | apply zc_add | apply zc_mul | with_reducible exact zc_var _ | exact zc_lit _) (by omega) (by omega) ?_
  refine z_aload_nT dL_law_759 rfl ?_
  refine z_iload_n dL_law_760 rfl ?_
  refine z_iconst dL_law_761 ?_
  refine z_iadd dL_law_762 ?_
  refine z_ialdT _ dL_law_763 (by assumption) (by repeat' first | apply zc_add | apply zc_mul | with_reducible exact zc_var _ | exact zc_lit _) (by omega) (by omega) ?_
  refine h_Vi2 (Y' := M_X11_turning) dL_law_764 zw_583 zw_584 zw_585 rfl ok_X11_turning (by decide) rfl (Nat.le_of_ble_eq_true rfl) ⟨rfl, rfl⟩ (by decide) (by first | assumption | rfl) (c_turning hC hO (hx _) (hx _)) (fun vv σ2 hq => ?_)
  obtain ⟨rfl, q1, q2⟩ := hq
  have hM1 := MI_fr hM q2
  obtain ⟨σ1, h1⟩ : ∃ z, z = σ2 := ⟨_, rfl⟩
  rw [← h1] at hM1 q1 ⊢
  refine z_aload_n dL_law_767 rfl ?_
  refine z_aload_nT dL_law_768 rfl ?_
  refine z_iload_n dL_law_769 rfl ?_
  refine z_iconst dL_law_770 ?_
  refine z_iadd dL_law_771 ?_
  refine z_ialdT _ dL_law_772 (by assumption) (by repeat' first | apply zc_add | apply zc_mul | with_reducible exact zc_var _ | exact zc_lit _) (by omega) (by omega) ?_
  refine z_aload_nT dL_law_773 rfl ?_
  refine z_iload_n dL_law_774 rfl ?_
  refine z_iconst dL_law_775 ?_
  refine z_iadd dL_law_776 ?_
  refine z_ialdT _ dL_law_777 (by assumption) (by repeat' first | apply zc_add | apply zc_mul | with_reducible exact zc_var _ | exact zc_lit _) (by omega) (by omega) ?_
  refine h_Vi2 (Y' := M_X12_turning) dL_law_778 zw_1036 zw_1037 zw_1038 rfl ok_X12_turning (by decide) rfl (Nat.le_of_ble_eq_true rfl) ⟨rfl, rfl⟩ (by decide) (by first | assumption | rfl) (r_turning hM1 hO (hx _) (hx _)) (fun vv σ2 hq => ?_)
  obtain ⟨rfl, q3, q4⟩ := hq
  refine z_icmp_same (tgt := 1152) dL_law_781 (by decide) ?_
  exact nxt _ _ (CI_fr q1 q4) q3 hO
theorem law_cross (h6 : rc 6 = some (N, xs)) (hx : ∀ j, zin (xs j)) (hN : N ≤ 384) (hi : i + 6 ≤ N) (hC : CI σ α) (hM : MI σ α) (hO : OK α) (nxt : ∀ σ α, CI σ α → MI σ α → OK α → Z rc M_L_law 55 2397 1152 (lawL i) [] (hp σ) lawQ) : Z rc M_L_law 55 2397 786 (lawL i) [] (hp σ) lawQ := by
  refine z_aload_n dL_law_786 rfl ?_
  refine z_aload_nT dL_law_787 rfl ?_
  refine z_iload_n dL_law_788 rfl ?_
  refine z_iconst dL_law_789 ?_
  refine z_iadd dL_law_790 ?_
  refine z_ialdT _ dL_law_791 (by assumption) (by repeat' first | apply zc_add | apply zc_mul | with_reducible exact zc_var _ | exact zc_lit _) (by omega) (by omega) ?_
  refine h_Vi1 (Y' := M_X11_cross) dL_law_792 zw_591 zw_592 zw_593 rfl ok_X11_cross (by decide) rfl (Nat.le_of_ble_eq_true rfl) ⟨rfl, rfl⟩ (by decide) (by first | assumption | rfl) (c_cross hC hO (hx _)) (fun vv σ2 hq => ?_)
  obtain ⟨rfl, q1, q2⟩ := hq
  have hM1 := MI_fr hM q2
  obtain ⟨σ1, h1⟩ : ∃ z, z = σ2 := ⟨_, rfl⟩
  rw [← h1] at hM1 q1 ⊢
  refine z_aload_n dL_law_795 rfl ?_
  refine z_aload_nT dL_law_796 rfl ?_
  refine z_iload_n dL_law_797 rfl ?_
  refine z_iconst dL_law_798 ?_
  refine z_iadd dL_law_799 ?_
  refine z_ialdT _ dL_law_800 (by assumption) (by repeat' first | apply zc_add | apply zc_mul | with_reducible exact zc_var _ | exact zc_lit _) (by omega) (by omega) ?_
  refine h_Vi1 (Y' := M_X12_cross) dL_law_801 zw_1040 zw_1041 zw_1042 rfl ok_X12_cross (by decide) rfl (Nat.le_of_ble_eq_true rfl) ⟨rfl, rfl⟩ (by decide) (by first | assumption | rfl) (r_cross hM1 hO (hx _)) (fun vv σ2 hq => ?_)
  obtain ⟨rfl, q3, q4⟩ := hq
  refine z_icmp_same (tgt := 1152) dL_law_804 (by decide) ?_
  exact nxt _ _ (CI_fr q1 q4) q3 hO
theorem law_fits (r0 : rc 0 = some (4, fLo)) (r1 : rc 1 = some (4, fHi)) (h6 : rc 6 = some (N, xs)) (hx : ∀ j, zin (xs j)) (hN : N ≤ 384) (hi : i + 6 ≤ N) (hC : CI σ α) (hM : MI σ α) (hO : OK α) (nxt : ∀ σ α, CI σ α → MI σ α → OK α → Z rc M_L_law 55 2397 1152 (lawL i) [] (hp σ) lawQ) : Z rc M_L_law 55 2397 809 (lawL i) [] (hp σ) lawQ := by
  refine z_aload_n dL_law_809 rfl ?_
  refine z_aload_nT dL_law_810 rfl ?_
  refine z_iload_n dL_law_811 rfl ?_
  refine z_iconst dL_law_812 ?_
  refine z_iadd dL_law_813 ?_
  refine z_ialdT _ dL_law_814 (by assumption) (by repeat' first | apply zc_add | apply zc_mul | with_reducible exact zc_var _ | exact zc_lit _) (by omega) (by omega) ?_
  refine z_aload_nT dL_law_815 rfl ?_
  refine z_iload_n dL_law_816 rfl ?_
  refine z_iconst dL_law_817 ?_
  refine z_iadd dL_law_818 ?_
  refine z_ialdT _ dL_law_819 (by assumption) (by repeat' first | apply zc_add | apply zc_mul | with_reducible exact zc_var _ | exact zc_lit _) (by omega) (by omega) ?_
  refine z_aload_nT dL_law_820 rfl ?_
  refine z_iload_n dL_law_821 rfl ?_
  refine z_iconst dL_law_822 ?_
  refine z_iadd dL_law_823 ?_
  refine z_ialdT _ dL_law_824 (by assumption) (by repeat' first | apply zc_add | apply zc_mul | with_reducible exact zc_var _ | exact zc_lit _) (by omega) (by omega) ?_
  refine z_aload_nT dL_law_825 rfl ?_
  refine z_iload_n dL_law_826 rfl ?_
  refine z_iconst dL_law_827 ?_
  refine z_iadd dL_law_828 ?_
  refine z_ialdT _ dL_law_829 (by assumption) (by repeat' first | apply zc_add | apply zc_mul | with_reducible exact zc_var _ | exact zc_lit _) (by omega) (by omega) ?_
  refine z_aload_nT dL_law_830 rfl ?_
  refine z_iload_n dL_law_831 rfl ?_
  refine z_iconst dL_law_832 ?_
  refine z_iadd dL_law_833 ?_
  refine z_ialdT _ dL_law_834 (by assumption) (by repeat' first | apply zc_add | apply zc_mul | with_reducible exact zc_var _ | exact zc_lit _) (by omega) (by omega) ?_
  refine h_Vi5 (Y' := M_X11_fits) dL_law_835 zw_599 zw_600 zw_601 rfl ok_X11_fits (by decide) rfl (Nat.le_of_ble_eq_true rfl) ⟨rfl, rfl⟩ (by decide) (by first | assumption | rfl) (c_fits r0 r1 hC hO (hx _) (hx _) (hx _) (hx _) (hx _)) (fun vv σ2 hq => ?_)
  obtain ⟨rfl, q1, q2⟩ := hq
  have hM1 := MI_fr hM q2
  obtain ⟨σ1, h1⟩ : ∃ z, z = σ2 := ⟨_, rfl⟩
  rw [← h1] at hM1 q1 ⊢
  refine z_aload_n dL_law_838 rfl ?_
  refine z_aload_nT dL_law_839 rfl ?_
  refine z_iload_n dL_law_840 rfl ?_
  refine z_iconst dL_law_841 ?_
  refine z_iadd dL_law_842 ?_
  refine z_ialdT _ dL_law_843 (by assumption) (by repeat' first | apply zc_add | apply zc_mul | with_reducible exact zc_var _ | exact zc_lit _) (by omega) (by omega) ?_
  refine z_aload_nT dL_law_844 rfl ?_
  refine z_iload_n dL_law_845 rfl ?_
  refine z_iconst dL_law_846 ?_
  refine z_iadd dL_law_847 ?_
  refine z_ialdT _ dL_law_848 (by assumption) (by repeat' first | apply zc_add | apply zc_mul | with_reducible exact zc_var _ | exact zc_lit _) (by omega) (by omega) ?_
  refine z_aload_nT dL_law_849 rfl ?_
  refine z_iload_n dL_law_850 rfl ?_
  refine z_iconst dL_law_851 ?_
  refine z_iadd dL_law_852 ?_
  refine z_ialdT _ dL_law_853 (by assumption) (by repeat' first | apply zc_add | apply zc_mul | with_reducible exact zc_var _ | exact zc_lit _) (by omega) (by omega) ?_
  refine z_aload_nT dL_law_854 rfl ?_
  refine z_iload_n dL_law_855 rfl ?_
  refine z_iconst dL_law_856 ?_
  refine z_iadd dL_law_857 ?_
  refine z_ialdT _ dL_law_858 (by assumption) (by repeat' first | apply zc_add | apply zc_mul | with_reducible exact zc_var _ | exact zc_lit _) (by omega) (by omega) ?_
  refine z_aload_nT dL_law_859 rfl ?_
  refine z_iload_n dL_law_860 rfl ?_
  refine z_iconst dL_law_861 ?_
  refine z_iadd dL_law_862 ?_
  refine z_ialdT _ dL_law_863 (by assumption) (by repeat' first | apply zc_add | apply zc_mul | with_reducible exact zc_var _ | exact zc_lit _) (by omega) (by omega) ?_
  refine h_Vi5 (Y' := M_X12_fits) dL_law_864 zw_1048 zw_1049 zw_1050 rfl ok_X12_fits (by decide) rfl (Nat.le_of_ble_eq_true rfl) ⟨rfl, rfl⟩ (by decide) (by first | assumption | rfl) (r_fits hM1 hO (hx _) (hx _) (hx _) (hx _) (hx _)) (fun vv σ2 hq => ?_)
  obtain ⟨rfl, q3, q4⟩ := hq
  refine z_icmp_same (tgt := 1152) dL_law_867 (by decide) ?_
  exact nxt _ _ (CI_fr q1 q4) q3 (ok_fits hO)
theorem law_fire (h6 : rc 6 = some (N, xs)) (hx : ∀ j, zin (xs j)) (hN : N ≤ 384) (hi : i + 6 ≤ N) (hC : CI σ α) (hM : MI σ α) (hO : OK α) (nxt : ∀ σ α, CI σ α → MI σ α → OK α → Z rc M_L_law 55 2397 1152 (lawL i) [] (hp σ) lawQ) : Z rc M_L_law 55 2397 872 (lawL i) [] (hp σ) lawQ := by
  refine z_aload_n dL_law_872 rfl ?_
  refine z_aload_nT dL_law_873 rfl ?_
  refine z_iload_n dL_law_874 rfl ?_
  refine z_iconst dL_law_875 ?_
  refine z_iadd dL_law_876 ?_
  refine z_ialdT _ dL_law_877 (by assumption) (by repeat' first | apply zc_add | apply zc_mul | with_reducible exact zc_var _ | exact zc_lit _) (by omega) (by omega) ?_
  refine z_aload_nT dL_law_878 rfl ?_
  refine z_iload_n dL_law_879 rfl ?_
  refine z_iconst dL_law_880 ?_
  refine z_iadd dL_law_881 ?_
  refine z_ialdT _ dL_law_882 (by assumption) (by repeat' first | apply zc_add | apply zc_mul | with_reducible exact zc_var _ | exact zc_lit _) (by omega) (by omega) ?_
  refine z_aload_nT dL_law_883 rfl ?_
  refine z_iload_n dL_law_884 rfl ?_
  refine z_iconst dL_law_885 ?_
  refine z_iadd dL_law_886 ?_
  refine z_ialdT _ dL_law_887 (by assumption) (by repeat' first | apply zc_add | apply zc_mul | with_reducible exact zc_var _ | exact zc_lit _) (by omega) (by omega) ?_
  refine h_Vi3 (Y' := M_X11_fire) dL_law_888 zw_620 zw_621 zw_622 rfl ok_X11_fire (by decide) rfl (Nat.le_of_ble_eq_true rfl) ⟨rfl, rfl⟩ (by decide) (by first | assumption | rfl) (c_fire hC hO (hx _) (hx _) (hx _)) (fun vv σ2 hq => ?_)
  obtain ⟨rfl, q1, q2⟩ := hq
  have hM1 := MI_fr hM q2
  obtain ⟨σ1, h1⟩ : ∃ z, z = σ2 := ⟨_, rfl⟩
  rw [← h1] at hM1 q1 ⊢
  refine z_aload_n dL_law_891 rfl ?_
  refine z_aload_nT dL_law_892 rfl ?_
  refine z_iload_n dL_law_893 rfl ?_
  refine z_iconst dL_law_894 ?_
  refine z_iadd dL_law_895 ?_
  refine z_ialdT _ dL_law_896 (by assumption) (by repeat' first | apply zc_add | apply zc_mul | with_reducible exact zc_var _ | exact zc_lit _) (by omega) (by omega) ?_
  refine z_aload_nT dL_law_897 rfl ?_
  refine z_iload_n dL_law_898 rfl ?_
  refine z_iconst dL_law_899 ?_
  refine z_iadd dL_law_900 ?_
  refine z_ialdT _ dL_law_901 (by assumption) (by repeat' first | apply zc_add | apply zc_mul | with_reducible exact zc_var _ | exact zc_lit _) (by omega) (by omega) ?_
  refine z_aload_nT dL_law_902 rfl ?_
  refine z_iload_n dL_law_903 rfl ?_
  refine z_iconst dL_law_904 ?_
  refine z_iadd dL_law_905 ?_
  refine z_ialdT _ dL_law_906 (by assumption) (by repeat' first | apply zc_add | apply zc_mul | with_reducible exact zc_var _ | exact zc_lit _) (by omega) (by omega) ?_
  refine h_Vi3 (Y' := M_X12_fire) dL_law_907 zw_1060 zw_1061 zw_1062 rfl ok_X12_fire (by decide) rfl (Nat.le_of_ble_eq_true rfl) ⟨rfl, rfl⟩ (by decide) (by first | assumption | rfl) (r_fire hM1 hO (hx _) (hx _) (hx _)) (fun vv σ2 hq => ?_)
  obtain ⟨rfl, q3, q4⟩ := hq
  refine z_icmp_same (tgt := 1152) dL_law_910 (by decide) ?_
  exact nxt _ _ (CI_fr q1 q4) q3 hO
theorem law_drawn (h6 : rc 6 = some (N, xs)) (hx : ∀ j, zin (xs j)) (hN : N ≤ 384) (hi : i + 6 ≤ N) (hC : CI σ α) (hM : MI σ α) (hO : OK α) (nxt : ∀ σ α, CI σ α → MI σ α → OK α → Z rc M_L_law 55 2397 1152 (lawL i) [] (hp σ) lawQ) : Z rc M_L_law 55 2397 915 (lawL i) [] (hp σ) lawQ := by
  refine z_aload_n dL_law_915 rfl ?_
  refine z_aload_nT dL_law_916 rfl ?_
  refine z_iload_n dL_law_917 rfl ?_
  refine z_iconst dL_law_918 ?_
  refine z_iadd dL_law_919 ?_
  refine z_ialdT _ dL_law_920 (by assumption) (by repeat' first | apply zc_add | apply zc_mul | with_reducible exact zc_var _ | exact zc_lit _) (by omega) (by omega) ?_
  refine z_aload_nT dL_law_921 rfl ?_
  refine z_iload_n dL_law_922 rfl ?_
  refine z_iconst dL_law_923 ?_
  refine z_iadd dL_law_924 ?_
  refine z_ialdT _ dL_law_925 (by assumption) (by repeat' first | apply zc_add | apply zc_mul | with_reducible exact zc_var _ | exact zc_lit _) (by omega) (by omega) ?_
  refine z_aload_nT dL_law_926 rfl ?_
  refine z_iload_n dL_law_927 rfl ?_
  refine z_iconst dL_law_928 ?_
  refine z_iadd dL_law_929 ?_
  refine z_ialdT _ dL_law_930 (by assumption) (by repeat' first | apply zc_add | apply zc_mul | with_reducible exact zc_var _ | exact zc_lit _) (by omega) (by omega) ?_
  refine h_Vi3 (Y' := M_X11_drawn) dL_law_931 zw_635 zw_636 zw_637 rfl ok_X11_drawn (by decide) rfl (Nat.le_of_ble_eq_true rfl) ⟨rfl, rfl⟩ (by decide) (by first | assumption | rfl) (c_drawn hC hO (hx _) (hx _) (hx _)) (fun vv σ2 hq => ?_)
  obtain ⟨rfl, q1, q2⟩ := hq
  have hM1 := MI_fr hM q2
  obtain ⟨σ1, h1⟩ : ∃ z, z = σ2 := ⟨_, rfl⟩
  rw [← h1] at hM1 q1 ⊢
  refine z_aload_n dL_law_934 rfl ?_
  refine z_aload_nT dL_law_935 rfl ?_
  refine z_iload_n dL_law_936 rfl ?_
  refine z_iconst dL_law_937 ?_
  refine z_iadd dL_law_938 ?_
  refine z_ialdT _ dL_law_939 (by assumption) (by repeat' first | apply zc_add | apply zc_mul | with_reducible exact zc_var _ | exact zc_lit _) (by omega) (by omega) ?_
  refine z_aload_nT dL_law_940 rfl ?_
  refine z_iload_n dL_law_941 rfl ?_
  refine z_iconst dL_law_942 ?_
  refine z_iadd dL_law_943 ?_
  refine z_ialdT _ dL_law_944 (by assumption) (by repeat' first | apply zc_add | apply zc_mul | with_reducible exact zc_var _ | exact zc_lit _) (by omega) (by omega) ?_
  refine z_aload_nT dL_law_945 rfl ?_
  refine z_iload_n dL_law_946 rfl ?_
  refine z_iconst dL_law_947 ?_
  refine z_iadd dL_law_948 ?_
  refine z_ialdT _ dL_law_949 (by assumption) (by repeat' first | apply zc_add | apply zc_mul | with_reducible exact zc_var _ | exact zc_lit _) (by omega) (by omega) ?_
  refine h_Vi3 (Y' := M_X12_drawn) dL_law_950 zw_1067 zw_1068 zw_1069 rfl ok_X12_drawn (by decide) rfl (Nat.le_of_ble_eq_true rfl) ⟨rfl, rfl⟩ (by decide) (by first | assumption | rfl) (r_drawn hM1 hO (hx _) (hx _) (hx _)) (fun vv σ2 hq => ?_)
  obtain ⟨rfl, q3, q4⟩ := hq
  refine z_icmp_same (tgt := 1152) dL_law_953 (by decide) ?_
  exact nxt _ _ (CI_fr q1 q4) q3 hO
theorem law_image (h6 : rc 6 = some (N, xs)) (hx : ∀ j, zin (xs j)) (hN : N ≤ 384) (hi : i + 6 ≤ N) (hC : CI σ α) (hM : MI σ α) (hO : OK α) (nxt : ∀ σ α, CI σ α → MI σ α → OK α → Z rc M_L_law 55 2397 1152 (lawL i) [] (hp σ) lawQ) : Z rc M_L_law 55 2397 958 (lawL i) [] (hp σ) lawQ := by
  refine z_aload_n dL_law_958 rfl ?_
  refine z_aload_nT dL_law_959 rfl ?_
  refine z_iload_n dL_law_960 rfl ?_
  refine z_iconst dL_law_961 ?_
  refine z_iadd dL_law_962 ?_
  refine z_ialdT _ dL_law_963 (by assumption) (by repeat' first | apply zc_add | apply zc_mul | with_reducible exact zc_var _ | exact zc_lit _) (by omega) (by omega) ?_
  refine h_Vi1 (Y' := M_X11_image) dL_law_964 zw_652 zw_653 zw_654 rfl ok_X11_image (by decide) rfl (Nat.le_of_ble_eq_true rfl) ⟨rfl, rfl⟩ (by decide) (by first | assumption | rfl) (c_image hC hO (hx _)) (fun vv σ2 hq => ?_)
  obtain ⟨rfl, q1, q2⟩ := hq
  have hM1 := MI_fr hM q2
  obtain ⟨σ1, h1⟩ : ∃ z, z = σ2 := ⟨_, rfl⟩
  rw [← h1] at hM1 q1 ⊢
  refine z_aload_n dL_law_967 rfl ?_
  refine z_aload_nT dL_law_968 rfl ?_
  refine z_iload_n dL_law_969 rfl ?_
  refine z_iconst dL_law_970 ?_
  refine z_iadd dL_law_971 ?_
  refine z_ialdT _ dL_law_972 (by assumption) (by repeat' first | apply zc_add | apply zc_mul | with_reducible exact zc_var _ | exact zc_lit _) (by omega) (by omega) ?_
  refine h_Vi1 (Y' := M_X12_image) dL_law_973 zw_1080 zw_1081 zw_1082 rfl ok_X12_image (by decide) rfl (Nat.le_of_ble_eq_true rfl) ⟨rfl, rfl⟩ (by decide) (by first | assumption | rfl) (r_image hM1 hO (hx _)) (fun vv σ2 hq => ?_)
  obtain ⟨rfl, q3, q4⟩ := hq
  refine z_icmp_same (tgt := 1152) dL_law_976 (by decide) ?_
  exact nxt _ _ (CI_fr q1 q4) q3 (ok_image hO)
theorem law_restore (h6 : rc 6 = some (N, xs)) (hx : ∀ j, zin (xs j)) (hN : N ≤ 384) (hi : i + 6 ≤ N) (hC : CI σ α) (hM : MI σ α) (hO : OK α) (nxt : ∀ σ α, CI σ α → MI σ α → OK α → Z rc M_L_law 55 2397 1152 (lawL i) [] (hp σ) lawQ) : Z rc M_L_law 55 2397 981 (lawL i) [] (hp σ) lawQ := by
  refine z_aload_n dL_law_981 rfl ?_
  refine z_aload_nT dL_law_982 rfl ?_
  refine z_iload_n dL_law_983 rfl ?_
  refine z_iconst dL_law_984 ?_
  refine z_iadd dL_law_985 ?_
  refine z_ialdT _ dL_law_986 (by assumption) (by repeat' first | apply zc_add | apply zc_mul | with_reducible exact zc_var _ | exact zc_lit _) (by omega) (by omega) ?_
  refine h_Vi1 (Y' := M_X11_restore) dL_law_987 zw_660 zw_661 zw_662 rfl ok_X11_restore (by decide) rfl (Nat.le_of_ble_eq_true rfl) ⟨rfl, rfl⟩ (by decide) (by first | assumption | rfl) (c_restore hC hO (hx _)) (fun vv σ2 hq => ?_)
  obtain ⟨rfl, q1, q2⟩ := hq
  have hM1 := MI_fr hM q2
  obtain ⟨σ1, h1⟩ : ∃ z, z = σ2 := ⟨_, rfl⟩
  rw [← h1] at hM1 q1 ⊢
  refine z_aload_n dL_law_990 rfl ?_
  refine z_aload_nT dL_law_991 rfl ?_
  refine z_iload_n dL_law_992 rfl ?_
  refine z_iconst dL_law_993 ?_
  refine z_iadd dL_law_994 ?_
  refine z_ialdT _ dL_law_995 (by assumption) (by repeat' first | apply zc_add | apply zc_mul | with_reducible exact zc_var _ | exact zc_lit _) (by omega) (by omega) ?_
  refine h_Vi1 (Y' := M_X12_restore) dL_law_996 zw_1084 zw_1085 zw_1086 rfl ok_X12_restore (by decide) rfl (Nat.le_of_ble_eq_true rfl) ⟨rfl, rfl⟩ (by decide) (by first | assumption | rfl) (r_restore hM1 hO (hx _)) (fun vv σ2 hq => ?_)
  obtain ⟨rfl, q3, q4⟩ := hq
  refine z_icmp_same (tgt := 1152) dL_law_999 (by decide) ?_
  exact nxt _ _ (CI_fr q1 q4) q3 (ok_rest hO)
theorem law_kind (h6 : rc 6 = some (N, xs)) (hx : ∀ j, zin (xs j)) (hN : N ≤ 384) (hi : i + 6 ≤ N) (hC : CI σ α) (hM : MI σ α) (hO : OK α) (nxt : ∀ σ α, CI σ α → MI σ α → OK α → Z rc M_L_law 55 2397 1152 (lawL i) [] (hp σ) lawQ) : Z rc M_L_law 55 2397 1004 (lawL i) [] (hp σ) lawQ := by
  refine z_aload_n dL_law_1004 rfl ?_
  refine z_aload_nT dL_law_1005 rfl ?_
  refine z_iload_n dL_law_1006 rfl ?_
  refine z_iconst dL_law_1007 ?_
  refine z_iadd dL_law_1008 ?_
  refine z_ialdT _ dL_law_1009 (by assumption) (by repeat' first | apply zc_add | apply zc_mul | with_reducible exact zc_var _ | exact zc_lit _) (by omega) (by omega) ?_
  refine h_Vi1 (Y' := M_X11_kind) dL_law_1010 zw_664 zw_665 zw_666 rfl ok_X11_kind (by decide) rfl (Nat.le_of_ble_eq_true rfl) ⟨rfl, rfl⟩ (by decide) (by first | assumption | rfl) (c_kind hC hO (hx _)) (fun vv σ2 hq => ?_)
  obtain ⟨rfl, q1, q2⟩ := hq
  have hM1 := MI_fr hM q2
  obtain ⟨σ1, h1⟩ : ∃ z, z = σ2 := ⟨_, rfl⟩
  rw [← h1] at hM1 q1 ⊢
  refine z_aload_n dL_law_1013 rfl ?_
  refine z_aload_nT dL_law_1014 rfl ?_
  refine z_iload_n dL_law_1015 rfl ?_
  refine z_iconst dL_law_1016 ?_
  refine z_iadd dL_law_1017 ?_
  refine z_ialdT _ dL_law_1018 (by assumption) (by repeat' first | apply zc_add | apply zc_mul | with_reducible exact zc_var _ | exact zc_lit _) (by omega) (by omega) ?_
  refine h_Vi1 (Y' := M_X12_kind) dL_law_1019 zw_1088 zw_1089 zw_1090 rfl ok_X12_kind (by decide) rfl (Nat.le_of_ble_eq_true rfl) ⟨rfl, rfl⟩ (by decide) (by first | assumption | rfl) (r_kind hM1 hO (hx _)) (fun vv σ2 hq => ?_)
  obtain ⟨rfl, q3, q4⟩ := hq
  refine z_icmp_same (tgt := 1152) dL_law_1022 (by decide) ?_
  exact nxt _ _ (CI_fr q1 q4) q3 hO
theorem law_as (h6 : rc 6 = some (N, xs)) (hx : ∀ j, zin (xs j)) (hN : N ≤ 384) (hi : i + 6 ≤ N) (hC : CI σ α) (hM : MI σ α) (hO : OK α) (nxt : ∀ σ α, CI σ α → MI σ α → OK α → Z rc M_L_law 55 2397 1152 (lawL i) [] (hp σ) lawQ) : Z rc M_L_law 55 2397 1027 (lawL i) [] (hp σ) lawQ := by
  refine z_aload_n dL_law_1027 rfl ?_
  refine z_aload_nT dL_law_1028 rfl ?_
  refine z_iload_n dL_law_1029 rfl ?_
  refine z_iconst dL_law_1030 ?_
  refine z_iadd dL_law_1031 ?_
  refine z_ialdT _ dL_law_1032 (by assumption) (by repeat' first | apply zc_add | apply zc_mul | with_reducible exact zc_var _ | exact zc_lit _) (by omega) (by omega) ?_
  refine z_aload_nT dL_law_1033 rfl ?_
  refine z_iload_n dL_law_1034 rfl ?_
  refine z_iconst dL_law_1035 ?_
  refine z_iadd dL_law_1036 ?_
  refine z_ialdT _ dL_law_1037 (by assumption) (by repeat' first | apply zc_add | apply zc_mul | with_reducible exact zc_var _ | exact zc_lit _) (by omega) (by omega) ?_
  refine h_Vi2 (Y' := M_X11_as) dL_law_1038 zw_668 zw_669 zw_670 rfl ok_X11_as (by decide) rfl (Nat.le_of_ble_eq_true rfl) ⟨rfl, rfl⟩ (by decide) (by first | assumption | rfl) (c_as hC hO (hx _) (hx _)) (fun vv σ2 hq => ?_)
  obtain ⟨rfl, q1, q2⟩ := hq
  have hM1 := MI_fr hM q2
  obtain ⟨σ1, h1⟩ : ∃ z, z = σ2 := ⟨_, rfl⟩
  rw [← h1] at hM1 q1 ⊢
  refine z_aload_n dL_law_1041 rfl ?_
  refine z_aload_nT dL_law_1042 rfl ?_
  refine z_iload_n dL_law_1043 rfl ?_
  refine z_iconst dL_law_1044 ?_
  refine z_iadd dL_law_1045 ?_
  refine z_ialdT _ dL_law_1046 (by assumption) (by repeat' first | apply zc_add | apply zc_mul | with_reducible exact zc_var _ | exact zc_lit _) (by omega) (by omega) ?_
  refine z_aload_nT dL_law_1047 rfl ?_
  refine z_iload_n dL_law_1048 rfl ?_
  refine z_iconst dL_law_1049 ?_
  refine z_iadd dL_law_1050 ?_
  refine z_ialdT _ dL_law_1051 (by assumption) (by repeat' first | apply zc_add | apply zc_mul | with_reducible exact zc_var _ | exact zc_lit _) (by omega) (by omega) ?_
  refine h_Vi2 (Y' := M_X12_as) dL_law_1052 zw_1092 zw_1093 zw_1094 rfl ok_X12_as (by decide) rfl (Nat.le_of_ble_eq_true rfl) ⟨rfl, rfl⟩ (by decide) (by first | assumption | rfl) (r_as hM1 hO (hx _) (hx _)) (fun vv σ2 hq => ?_)
  obtain ⟨rfl, q3, q4⟩ := hq
  refine z_icmp_same (tgt := 1152) dL_law_1055 (by decide) ?_
  exact nxt _ _ (CI_fr q1 q4) q3 (ok_as hO)
theorem law_ask (h6 : rc 6 = some (N, xs)) (hx : ∀ j, zin (xs j)) (hN : N ≤ 384) (hi : i + 6 ≤ N) (hC : CI σ α) (hM : MI σ α) (hO : OK α) (nxt : ∀ σ α, CI σ α → MI σ α → OK α → Z rc M_L_law 55 2397 1152 (lawL i) [] (hp σ) lawQ) : Z rc M_L_law 55 2397 1060 (lawL i) [] (hp σ) lawQ := by
  refine z_aload_n dL_law_1060 rfl ?_
  refine z_aload_nT dL_law_1061 rfl ?_
  refine z_iload_n dL_law_1062 rfl ?_
  refine z_iconst dL_law_1063 ?_
  refine z_iadd dL_law_1064 ?_
  refine z_ialdT _ dL_law_1065 (by assumption) (by repeat' first | apply zc_add | apply zc_mul | with_reducible exact zc_var _ | exact zc_lit _) (by omega) (by omega) ?_
  refine z_aload_nT dL_law_1066 rfl ?_
  refine z_iload_n dL_law_1067 rfl ?_
  refine z_iconst dL_law_1068 ?_
  refine z_iadd dL_law_1069 ?_
  refine z_ialdT _ dL_law_1070 (by assumption) (by repeat' first | apply zc_add | apply zc_mul | with_reducible exact zc_var _ | exact zc_lit _) (by omega) (by omega) ?_
  refine h_Vi2 (Y' := M_X11_ask) dL_law_1071 zw_680 zw_681 zw_682 rfl ok_X11_ask (by decide) rfl (Nat.le_of_ble_eq_true rfl) ⟨rfl, rfl⟩ (by decide) (by first | assumption | rfl) (c_ask hC hO (hx _) (hx _)) (fun vv σ2 hq => ?_)
  obtain ⟨rfl, q1, q2⟩ := hq
  have hM1 := MI_fr hM q2
  obtain ⟨σ1, h1⟩ : ∃ z, z = σ2 := ⟨_, rfl⟩
  rw [← h1] at hM1 q1 ⊢
  refine z_aload_n dL_law_1074 rfl ?_
  refine z_aload_nT dL_law_1075 rfl ?_
  refine z_iload_n dL_law_1076 rfl ?_
  refine z_iconst dL_law_1077 ?_
  refine z_iadd dL_law_1078 ?_
  refine z_ialdT _ dL_law_1079 (by assumption) (by repeat' first | apply zc_add | apply zc_mul | with_reducible exact zc_var _ | exact zc_lit _) (by omega) (by omega) ?_
  refine z_aload_nT dL_law_1080 rfl ?_
  refine z_iload_n dL_law_1081 rfl ?_
  refine z_iconst dL_law_1082 ?_
  refine z_iadd dL_law_1083 ?_
  refine z_ialdT _ dL_law_1084 (by assumption) (by repeat' first | apply zc_add | apply zc_mul | with_reducible exact zc_var _ | exact zc_lit _) (by omega) (by omega) ?_
  refine h_Vi2 (Y' := M_X12_ask) dL_law_1085 zw_1099 zw_1100 zw_1101 rfl ok_X12_ask (by decide) rfl (Nat.le_of_ble_eq_true rfl) ⟨rfl, rfl⟩ (by decide) (by first | assumption | rfl) (r_ask hM1 hO (hx _) (hx _)) (fun vv σ2 hq => ?_)
  obtain ⟨rfl, q3, q4⟩ := hq
  refine z_icmp_same (tgt := 1152) dL_law_1088 (by decide) ?_
  exact nxt _ _ (CI_fr q1 q4) q3 (ok_ask hO)
theorem law_trace (h6 : rc 6 = some (N, xs)) (hx : ∀ j, zin (xs j)) (hN : N ≤ 384) (hi : i + 6 ≤ N) (hC : CI σ α) (hM : MI σ α) (hO : OK α) (nxt : ∀ σ α, CI σ α → MI σ α → OK α → Z rc M_L_law 55 2397 1152 (lawL i) [] (hp σ) lawQ) : Z rc M_L_law 55 2397 1093 (lawL i) [] (hp σ) lawQ := by
  refine z_aload_n dL_law_1093 rfl ?_
  refine z_aload_nT dL_law_1094 rfl ?_
  refine z_iload_n dL_law_1095 rfl ?_
  refine z_iconst dL_law_1096 ?_
  refine z_iadd dL_law_1097 ?_
  refine z_ialdT _ dL_law_1098 (by assumption) (by repeat' first | apply zc_add | apply zc_mul | with_reducible exact zc_var _ | exact zc_lit _) (by omega) (by omega) ?_
  refine h_Vi1 (Y' := M_X11_trace) dL_law_1099 zw_739 zw_740 zw_741 rfl ok_X11_trace (by decide) rfl (Nat.le_of_ble_eq_true rfl) ⟨rfl, rfl⟩ (by decide) (by first | assumption | rfl) (c_trace hC hO (hx _)) (fun vv σ2 hq => ?_)
  obtain ⟨rfl, q1, q2⟩ := hq
  have hM1 := MI_fr hM q2
  obtain ⟨σ1, h1⟩ : ∃ z, z = σ2 := ⟨_, rfl⟩
  rw [← h1] at hM1 q1 ⊢
  refine z_aload_n dL_law_1102 rfl ?_
  refine z_aload_nT dL_law_1103 rfl ?_
  refine z_iload_n dL_law_1104 rfl ?_
  refine z_iconst dL_law_1105 ?_
  refine z_iadd dL_law_1106 ?_
  refine z_ialdT _ dL_law_1107 (by assumption) (by repeat' first | apply zc_add | apply zc_mul | with_reducible exact zc_var _ | exact zc_lit _) (by omega) (by omega) ?_
  refine h_Vi1 (Y' := M_X12_trace) dL_law_1108 zw_1127 zw_1128 zw_1129 rfl ok_X12_trace (by decide) rfl (Nat.le_of_ble_eq_true rfl) ⟨rfl, rfl⟩ (by decide) (by first | assumption | rfl) (r_trace hM1 hO (hx _)) (fun vv σ2 hq => ?_)
  obtain ⟨rfl, q3, q4⟩ := hq
  refine z_icmp_same (tgt := 1152) dL_law_1111 (by decide) ?_
  exact nxt _ _ (CI_fr q1 q4) q3 hO
theorem law_count (h6 : rc 6 = some (N, xs)) (hx : ∀ j, zin (xs j)) (hN : N ≤ 384) (hi : i + 6 ≤ N) (hC : CI σ α) (hM : MI σ α) (hO : OK α) (nxt : ∀ σ α, CI σ α → MI σ α → OK α → Z rc M_L_law 55 2397 1152 (lawL i) [] (hp σ) lawQ) : Z rc M_L_law 55 2397 1116 (lawL i) [] (hp σ) lawQ := by
  refine z_aload_n dL_law_1116 rfl ?_
  refine z_aload_nT dL_law_1117 rfl ?_
  refine z_iload_n dL_law_1118 rfl ?_
  refine z_iconst dL_law_1119 ?_
  refine z_iadd dL_law_1120 ?_
  refine z_ialdT _ dL_law_1121 (by assumption) (by repeat' first | apply zc_add | apply zc_mul | with_reducible exact zc_var _ | exact zc_lit _) (by omega) (by omega) ?_
  refine h_Vi1 (Y' := M_X11_count) dL_law_1122 zw_748 zw_749 zw_750 rfl ok_X11_count (by decide) rfl (Nat.le_of_ble_eq_true rfl) ⟨rfl, rfl⟩ (by decide) (by first | assumption | rfl) (c_count hC hO (hx _)) (fun vv σ2 hq => ?_)
  obtain ⟨rfl, q1, q2⟩ := hq
  have hM1 := MI_fr hM q2
  obtain ⟨σ1, h1⟩ : ∃ z, z = σ2 := ⟨_, rfl⟩
  rw [← h1] at hM1 q1 ⊢
  refine z_aload_n dL_law_1125 rfl ?_
  refine z_aload_nT dL_law_1126 rfl ?_
  refine z_iload_n dL_law_1127 rfl ?_
  refine z_iconst dL_law_1128 ?_
  refine z_iadd dL_law_1129 ?_
  refine z_ialdT _ dL_law_1130 (by assumption) (by repeat' first | apply zc_add | apply zc_mul | with_reducible exact zc_var _ | exact zc_lit _) (by omega) (by omega) ?_
  refine h_Vi1 (Y' := M_X12_count) dL_law_1131 zw_1131 zw_1132 zw_1133 rfl ok_X12_count (by decide) rfl (Nat.le_of_ble_eq_true rfl) ⟨rfl, rfl⟩ (by decide) (by first | assumption | rfl) (r_count hM1 hO (hx _)) (fun vv σ2 hq => ?_)
  obtain ⟨rfl, q3, q4⟩ := hq
  refine z_icmp_same (tgt := 1152) dL_law_1134 (by decide) ?_
  exact nxt _ _ (CI_fr q1 q4) q3 hO
theorem law_status (h6 : rc 6 = some (N, xs)) (hx : ∀ j, zin (xs j)) (hN : N ≤ 384) (hi : i + 6 ≤ N) (hC : CI σ α) (hM : MI σ α) (hO : OK α) (nxt : ∀ σ α, CI σ α → MI σ α → OK α → Z rc M_L_law 55 2397 1152 (lawL i) [] (hp σ) lawQ) : Z rc M_L_law 55 2397 1139 (lawL i) [] (hp σ) lawQ := by
  refine z_aload_n dL_law_1139 rfl ?_
  refine h_Vi0 (Y' := M_X11_status) dL_law_1140 zw_760 zw_761 zw_762 rfl ok_X11_status (by decide) rfl (Nat.le_of_ble_eq_true rfl) ⟨rfl, rfl⟩ (by decide) (by first | assumption | rfl) (c_status hC) (fun vv σ2 hq => ?_)
  obtain ⟨rfl, q1, q2⟩ := hq
  have hM1 := MI_fr hM q2
  obtain ⟨σ1, h1⟩ : ∃ z, z = σ2 := ⟨_, rfl⟩
  rw [← h1] at hM1 q1 ⊢
  refine z_aload_n dL_law_1143 rfl ?_
  refine h_Vi0 (Y' := M_X12_status) dL_law_1144 zw_1135 zw_1136 zw_1137 rfl ok_X12_status (by decide) rfl (Nat.le_of_ble_eq_true rfl) ⟨rfl, rfl⟩ (by decide) (by first | assumption | rfl) (r_status hM1) (fun vv σ2 hq => ?_)
  obtain ⟨rfl, q3, q4⟩ := hq
  refine z_icmp_same (tgt := 1152) dL_law_1147 (by decide) ?_
  exact nxt _ _ (CI_fr q1 q4) q3 hO
end
