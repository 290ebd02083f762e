/-! the law's cases -/
theorem SW.bud {SR : SRT} {M : MI} {d bc bs bc' bs' pc n : Nat} {lv : List (Nat × Value)} {st : List Value} {h : AH} {Post : ARes → AH → Nat → Prop} (k : SW SR M d bc bs pc lv st h n Post) (h1 : bc ≤ bc') (h2 : bs ≤ bs') : SW SR M d bc' bs' pc lv st h n Post := by
  intro G p l e R s m args below meth c A ad0 n0 Q hc hr he H locs cells slots ls ad hm hl hx hbc hbs
  exact k G p l e R s m args below meth c A ad0 n0 Q hc hr he H locs cells slots ls ad hm hl hx (by omega) (by omega)
theorem lg_self (x : Int64) : lg_cmp x x = 0 := by
  unfold lg_cmp
  simp
/-- between two calls -/
def LI (L : Nat) (xs : Nat → Int32) (h : AH) (n : Nat) (σ : CS) (N : Nat) : Prop := RC h σ ∧ (∃ th, RMo h σ th) ∧ TXT h ∧ IV σ N ∧ (∃ w s, h 158 = .inr (5, [.long w, s])) ∧ h 0 = .inl (0, L, .inl xs) ∧ 159 ≤ n
section
variable {h : AH} {n n' : Nat} {t : ARes → Int32} {q : ARes × CS}
theorem lpo_k {A : Nat → AH → Option Value → Prop} {n0 : Nat} (k : ∀ h' n' w s, n ≤ n' → RC h' q.2 → h' 158 = .inr (5, [.long w, s]) → (∀ v, q.1 = rI v → w = v.toInt64) → (∀ i, i < 100 ∨ 135 ≤ i → i ≠ 158 → i < n → h' i = h i) → A n' h' (some (.int (t q.1)))) : ∀ (v : Option Value) (h' : AH) (n' : Nat), n0 ≤ n' → LPo h n t q (.inl v) h' n' → A n' h' v := by
  rintro v h' n' - ⟨e, g1, g2, ⟨w, s, g3, g4⟩, g5⟩
  cases e
  exact k h' n' w s g1 g2 g3 g4 g5
theorem lpo_x {A : Prop} {E : String} {h' : AH} {n' : Nat} (z : LPo h n t q (.inr E) h' n') : A := by cases z.1
theorem pmc_k {A : Nat → AH → Option Value → Prop} {l : List String} {n0 : Nat} (hO : OX l q) (k : ∀ h' n' b, n ≤ n' → (∀ v, q.1 = rI v → b = v) → RMo h' q.2 (t q.1) → FrM h h' n → A n' h' (some (.int b))) : ∀ (v : Option Value) (h' : AH) (n' : Nat), n0 ≤ n' → PM h n t q (.inl v) h' n' → A n' h' v := by
  rintro v h' n' - ⟨e, g1, g2, g3⟩
  rcases hO with ⟨b, e2⟩ | ⟨E, -, e2⟩
  · have e3 : v = some (.int b) := by rw [e2] at e; exact Sum.inl.inj e
    rw [e3]
    exact k h' n' b g1 (fun v e4 => by rw [e2] at e4; exact Value.int.inj (Option.some.inj (Sum.inl.inj e4))) g2 g3
  · have e3 : v = some (.int 0) := by rw [e2] at e; exact Sum.inl.inj e
    rw [e3]
    exact k h' n' 0 g1 (fun v e4 => by rw [e2] at e4; cases e4) g2 g3
theorem pmc_x {A : Prop} {E : String} {h' : AH} {n' : Nat} (z : PM h n t q (.inr E) h' n') : A := by cases z.1
theorem ox_0 {l : List String} {a b : String} (hO : OX l q) (e : tc a b q.1 = 0) : ∃ v, q.1 = rI v := by
  rcases hO with e2 | ⟨E, -, e2⟩
  · exact e2
  · exfalso
    rw [e2] at e
    have e3 : (if E = a then (1 : Int32) else if E = b then 2 else 3) = 0 := e
    split at e3
    · exact absurd e3 (by decide +kernel)
    · split at e3
      · exact absurd e3 (by decide +kernel)
      · exact absurd e3 (by decide +kernel)
end
def ML_law : MI := (yL_law, cL_law, 7, (Option.some Jvm.ClassFile.FieldType.boolean), [])
theorem dpc_k {A : Nat → AH → Option Value → Prop} {h : AH} {n n0 : Nat} {σ : CS} (k : ∀ h' n', n ≤ n' → RMo h' σ 0 → FrM h h' n → A n' h' (some (.long (dgZ σ)))) : ∀ (v : Option Value) (h' : AH) (n' : Nat), n0 ≤ n' → DP h n σ (.inl v) h' n' → A n' h' v := by
  rintro v h' n' - ⟨e, g1, g2, g3⟩
  cases e
  exact k h' n' g1 g2 g3
theorem lc_0 {L : Nat} {xs : Nat → Int32} {h : AH} {n i N d bc bs : Nat} {σ : CS} {Post : ARes → AH → Nat → Prop} (hI : LI L xs h n σ N) (hN : N < 2 ^ 31) (hL : L ≤ 3072) (hi : i + 6 ≤ L) (hd : 20 ≤ d) (h1 : 380 ≤ bc) (h2 : 4500 ≤ bs) (K : ∀ (h' : AH) (n' : Nat) (σ' : CS), n ≤ n' → LI L xs h' n' σ' (N + 12) → SW SR0 ML_law d (bc - 380) (bs - 4500) 1944 [(4, .int (nI i)), (3, .ref 158), (2, .ref 135), (1, .ref 100), (0, .ref 0)] [] h' n' Post) : SW SR0 ML_law d bc bs 236 [(4, .int (nI i)), (3, .ref 158), (2, .ref 135), (1, .ref 100), (0, .ref 0)] [] h n Post := by
  obtain ⟨hR, ⟨th, hQ⟩, hT, hV, ⟨w, s, hO⟩, hs, hn⟩ := hI
  refine sw_aload_n (pc' := 237) rfl dL_law_236 rfl ?_
  refine sw_aload_n (pc' := 238) rfl dL_law_237 rfl ?_
  refine sw_iload (pc' := 240) rfl dL_law_238 rfl ?_
  refine sw_iconst (pc' := 241) (v := 1) rfl dL_law_240 (by decide +kernel) ?_
  refine sw_iadd (pc' := 242) rfl dL_law_241 ?_
  rw [show (nI i) + 1 = nI (i + 1) from nI_add _ _]
  refine sw_iald (j := i + 1) (pc' := 243) rfl dL_law_242 hs rfl (by omega) (by omega) ?_
  refine sw_aload_n (pc' := 244) rfl dL_law_243 rfl ?_
  refine sw_iload (pc' := 246) rfl dL_law_244 rfl ?_
  refine sw_iconst (pc' := 247) (v := 2) rfl dL_law_246 (by decide +kernel) ?_
  refine sw_iadd (pc' := 248) rfl dL_law_247 ?_
  rw [show (nI i) + 2 = nI (i + 2) from nI_add _ _]
  refine sw_iald (j := i + 2) (pc' := 249) rfl dL_law_248 hs rfl (by omega) (by omega) ?_
  refine sw_aload_n (pc' := 250) rfl dL_law_249 rfl ?_
  refine sw_S (M' := ML_put) (d' := d - 1) (bc' := 60) (bs' := 400) (as := [_, _, _, _]) dL_law_250 w_392 ok_L_put (L_put hR hT hV hN hO hn (by omega) (Nat.le_refl _) (Nat.le_refl _)) (by omega) (Nat.le_of_ble_eq_true rfl) (by omega) (by omega) (fun E h' n' _ z => lpo_x z) (lpo_k (fun p pn pw ps pk pR pO pv pF => ?_))
  refine sw_istore (pc' := 255) (lv' := [(5, _), (4, _), (3, _), (2, _), (1, _), (0, _)]) rfl dL_law_253 (by decide +kernel) rfl ?_
  refine sw_aload_n (pc' := 256) rfl dL_law_255 rfl ?_
  refine sw_aload_n (pc' := 257) rfl dL_law_256 rfl ?_
  refine sw_iload (pc' := 259) rfl dL_law_257 rfl ?_
  refine sw_iconst (pc' := 260) (v := 1) rfl dL_law_259 (by decide +kernel) ?_
  refine sw_iadd (pc' := 261) rfl dL_law_260 ?_
  rw [show (nI i) + 1 = nI (i + 1) from nI_add _ _]
  refine sw_iald (j := i + 1) (pc' := 262) rfl dL_law_261 ((pF 0 (by omega) (by omega) (by omega)).trans hs) rfl (by omega) (by omega) ?_
  refine sw_aload_n (pc' := 263) rfl dL_law_262 rfl ?_
  refine sw_iload (pc' := 265) rfl dL_law_263 rfl ?_
  refine sw_iconst (pc' := 266) (v := 2) rfl dL_law_265 (by decide +kernel) ?_
  refine sw_iadd (pc' := 267) rfl dL_law_266 ?_
  rw [show (nI i) + 2 = nI (i + 2) from nI_add _ _]
  refine sw_iald (j := i + 2) (pc' := 268) rfl dL_law_267 ((pF 0 (by omega) (by omega) (by omega)).trans hs) rfl (by omega) (by omega) ?_
  have hQ2 := hQ.fr (fun i a b => pF i (by omega) (by omega) (by omega))
  obtain ⟨ρ, τ, hM, hA⟩ := id hQ2
  refine sw_V (M' := MX5_put) (d' := d - 1) (bc' := 1) (bs' := 12) (ci := 6) (as := [_, _]) dL_law_268 w_1161 ok_X5_put (q_put hQ2 (hV.iv hN) (by omega) (by omega) (Nat.le_refl _) (Nat.le_refl _)) hM.ob rfl (by omega) (Nat.le_of_ble_eq_true rfl) (by omega) (by omega) (fun E h' n' _ z => pmc_x z) (pmc_k ox_put (fun u un ub uk uv uR uF => ?_))
  refine sw_istore (pc' := 273) (lv' := [(6, _), (5, _), (4, _), (3, _), (2, _), (1, _), (0, _)]) rfl dL_law_271 (by decide +kernel) rfl ?_
  refine sw_goto (tgt := 1944) dL_law_273 (by decide +kernel) ?_
  have J : LI L xs u un (opPut σ (xs (i + 1)) (xs (i + 2))).2 (N + 12) := ⟨pR.frT (fun i hi => uF i (by omega) (by omega)), ⟨_, uR⟩, hT.fr (fun i hi => (uF i (by omega) (by omega)).trans (pF i (by omega) (by omega) (by omega))), iv_put hV, ⟨_, _, (uF 158 (by omega) (by omega)).trans pO⟩, (uF 0 (by omega) (by omega)).trans ((pF 0 (by omega) (by omega) (by omega)).trans hs), by omega⟩
  exact SW.pick [2, 3, 4, 5, 6] rfl ((K u un _ (by omega) J).bud (by omega) (by omega))
theorem lc_1 {L : Nat} {xs : Nat → Int32} {h : AH} {n i N d bc bs : Nat} {σ : CS} {Post : ARes → AH → Nat → Prop} (hI : LI L xs h n σ N) (hN : N < 2 ^ 31) (hL : L ≤ 3072) (hi : i + 6 ≤ L) (hd : 20 ≤ d) (h1 : 380 ≤ bc) (h2 : 4500 ≤ bs) (K : ∀ (h' : AH) (n' : Nat) (σ' : CS), n ≤ n' → LI L xs h' n' σ' (N + 12) → SW SR0 ML_law d (bc - 380) (bs - 4500) 1944 [(4, .int (nI i)), (3, .ref 158), (2, .ref 135), (1, .ref 100), (0, .ref 0)] [] h' n' Post) : SW SR0 ML_law d bc bs 276 [(4, .int (nI i)), (3, .ref 158), (2, .ref 135), (1, .ref 100), (0, .ref 0)] [] h n Post := by
  obtain ⟨hR, ⟨th, hQ⟩, hT, hV, ⟨w, s, hO⟩, hs, hn⟩ := hI
  refine sw_aload_n (pc' := 277) rfl dL_law_276 rfl ?_
  refine sw_aload_n (pc' := 278) rfl dL_law_277 rfl ?_
  refine sw_iload (pc' := 280) rfl dL_law_278 rfl ?_
  refine sw_iconst (pc' := 281) (v := 1) rfl dL_law_280 (by decide +kernel) ?_
  refine sw_iadd (pc' := 282) rfl dL_law_281 ?_
  rw [show (nI i) + 1 = nI (i + 1) from nI_add _ _]
  refine sw_iald (j := i + 1) (pc' := 283) rfl dL_law_282 hs rfl (by omega) (by omega) ?_
  refine sw_aload_n (pc' := 284) rfl dL_law_283 rfl ?_
  refine sw_iload (pc' := 286) rfl dL_law_284 rfl ?_
  refine sw_iconst (pc' := 287) (v := 2) rfl dL_law_286 (by decide +kernel) ?_
  refine sw_iadd (pc' := 288) rfl dL_law_287 ?_
  rw [show (nI i) + 2 = nI (i + 2) from nI_add _ _]
  refine sw_iald (j := i + 2) (pc' := 289) rfl dL_law_288 hs rfl (by omega) (by omega) ?_
  refine sw_aload_n (pc' := 290) rfl dL_law_289 rfl ?_
  refine sw_iload (pc' := 292) rfl dL_law_290 rfl ?_
  refine sw_iconst (pc' := 293) (v := 3) rfl dL_law_292 (by decide +kernel) ?_
  refine sw_iadd (pc' := 294) rfl dL_law_293 ?_
  rw [show (nI i) + 3 = nI (i + 3) from nI_add _ _]
  refine sw_iald (j := i + 3) (pc' := 295) rfl dL_law_294 hs rfl (by omega) (by omega) ?_
  refine sw_aload_n (pc' := 296) rfl dL_law_295 rfl ?_
  refine sw_iload (pc' := 298) rfl dL_law_296 rfl ?_
  refine sw_iconst (pc' := 299) (v := 4) rfl dL_law_298 (by decide +kernel) ?_
  refine sw_iadd (pc' := 300) rfl dL_law_299 ?_
  rw [show (nI i) + 4 = nI (i + 4) from nI_add _ _]
  refine sw_iald (j := i + 4) (pc' := 301) rfl dL_law_300 hs rfl (by omega) (by omega) ?_
  refine sw_aload_n (pc' := 302) rfl dL_law_301 rfl ?_
  refine sw_iload (pc' := 304) rfl dL_law_302 rfl ?_
  refine sw_iconst (pc' := 305) (v := 5) rfl dL_law_304 (by decide +kernel) ?_
  refine sw_iadd (pc' := 306) rfl dL_law_305 ?_
  rw [show (nI i) + 5 = nI (i + 5) from nI_add _ _]
  refine sw_iald (j := i + 5) (pc' := 307) rfl dL_law_306 hs rfl (by omega) (by omega) ?_
  refine sw_aload_n (pc' := 308) rfl dL_law_307 rfl ?_
  refine sw_S (M' := ML_putAll) (d' := d - 1) (bc' := 60) (bs' := 400) (as := [_, _, _, _, _, _, _]) dL_law_308 w_457 ok_L_putAll (L_putAll hR hT hV hN hO hn (by omega) (Nat.le_refl _) (Nat.le_refl _)) (by omega) (Nat.le_of_ble_eq_true rfl) (by omega) (by omega) (fun E h' n' _ z => lpo_x z) (lpo_k (fun p pn pw ps pk pR pO pv pF => ?_))
  refine sw_istore (pc' := 313) (lv' := [(5, _), (4, _), (3, _), (2, _), (1, _), (0, _)]) rfl dL_law_311 (by decide +kernel) rfl ?_
  refine sw_aload_n (pc' := 314) rfl dL_law_313 rfl ?_
  refine sw_aload_n (pc' := 315) rfl dL_law_314 rfl ?_
  refine sw_iload (pc' := 317) rfl dL_law_315 rfl ?_
  refine sw_iconst (pc' := 318) (v := 1) rfl dL_law_317 (by decide +kernel) ?_
  refine sw_iadd (pc' := 319) rfl dL_law_318 ?_
  rw [show (nI i) + 1 = nI (i + 1) from nI_add _ _]
  refine sw_iald (j := i + 1) (pc' := 320) rfl dL_law_319 ((pF 0 (by omega) (by omega) (by omega)).trans hs) rfl (by omega) (by omega) ?_
  refine sw_aload_n (pc' := 321) rfl dL_law_320 rfl ?_
  refine sw_iload (pc' := 323) rfl dL_law_321 rfl ?_
  refine sw_iconst (pc' := 324) (v := 2) rfl dL_law_323 (by decide +kernel) ?_
  refine sw_iadd (pc' := 325) rfl dL_law_324 ?_
  rw [show (nI i) + 2 = nI (i + 2) from nI_add _ _]
  refine sw_iald (j := i + 2) (pc' := 326) rfl dL_law_325 ((pF 0 (by omega) (by omega) (by omega)).trans hs) rfl (by omega) (by omega) ?_
  refine sw_aload_n (pc' := 327) rfl dL_law_326 rfl ?_
  refine sw_iload (pc' := 329) rfl dL_law_327 rfl ?_
  refine sw_iconst (pc' := 330) (v := 3) rfl dL_law_329 (by decide +kernel) ?_
  refine sw_iadd (pc' := 331) rfl dL_law_330 ?_
  rw [show (nI i) + 3 = nI (i + 3) from nI_add _ _]
  refine sw_iald (j := i + 3) (pc' := 332) rfl dL_law_331 ((pF 0 (by omega) (by omega) (by omega)).trans hs) rfl (by omega) (by omega) ?_
  refine sw_aload_n (pc' := 333) rfl dL_law_332 rfl ?_
  refine sw_iload (pc' := 335) rfl dL_law_333 rfl ?_
  refine sw_iconst (pc' := 336) (v := 4) rfl dL_law_335 (by decide +kernel) ?_
  refine sw_iadd (pc' := 337) rfl dL_law_336 ?_
  rw [show (nI i) + 4 = nI (i + 4) from nI_add _ _]
  refine sw_iald (j := i + 4) (pc' := 338) rfl dL_law_337 ((pF 0 (by omega) (by omega) (by omega)).trans hs) rfl (by omega) (by omega) ?_
  refine sw_aload_n (pc' := 339) rfl dL_law_338 rfl ?_
  refine sw_iload (pc' := 341) rfl dL_law_339 rfl ?_
  refine sw_iconst (pc' := 342) (v := 5) rfl dL_law_341 (by decide +kernel) ?_
  refine sw_iadd (pc' := 343) rfl dL_law_342 ?_
  rw [show (nI i) + 5 = nI (i + 5) from nI_add _ _]
  refine sw_iald (j := i + 5) (pc' := 344) rfl dL_law_343 ((pF 0 (by omega) (by omega) (by omega)).trans hs) rfl (by omega) (by omega) ?_
  have hQ2 := hQ.fr (fun i a b => pF i (by omega) (by omega) (by omega))
  obtain ⟨ρ, τ, hM, hA⟩ := id hQ2
  refine sw_V (M' := MX5_putAll) (d' := d - 1) (bc' := 1) (bs' := 12) (ci := 6) (as := [_, _, _, _, _]) dL_law_344 w_1203 ok_X5_putAll (q_putAll hQ2 (hV.iv hN) (by omega) (by omega) (Nat.le_refl _) (Nat.le_refl _)) hM.ob rfl (by omega) (Nat.le_of_ble_eq_true rfl) (by omega) (by omega) (fun E h' n' _ z => pmc_x z) (pmc_k ox_putAll (fun u un ub uk uv uR uF => ?_))
  refine sw_istore (pc' := 349) (lv' := [(6, _), (5, _), (4, _), (3, _), (2, _), (1, _), (0, _)]) rfl dL_law_347 (by decide +kernel) rfl ?_
  refine sw_goto (tgt := 1944) dL_law_349 (by decide +kernel) ?_
  have J : LI L xs u un (opPutAll σ (xs (i + 1)) (xs (i + 2)) (xs (i + 3)) (xs (i + 4)) (xs (i + 5))).2 (N + 12) := ⟨pR.frT (fun i hi => uF i (by omega) (by omega)), ⟨_, uR⟩, hT.fr (fun i hi => (uF i (by omega) (by omega)).trans (pF i (by omega) (by omega) (by omega))), iv_putAll hV, ⟨_, _, (uF 158 (by omega) (by omega)).trans pO⟩, (uF 0 (by omega) (by omega)).trans ((pF 0 (by omega) (by omega) (by omega)).trans hs), by omega⟩
  exact SW.pick [2, 3, 4, 5, 6] rfl ((K u un _ (by omega) J).bud (by omega) (by omega))
theorem lc_2 {L : Nat} {xs : Nat → Int32} {h : AH} {n i N d bc bs : Nat} {σ : CS} {Post : ARes → AH → Nat → Prop} (hI : LI L xs h n σ N) (hN : N < 2 ^ 31) (hL : L ≤ 3072) (hi : i + 6 ≤ L) (hd : 20 ≤ d) (h1 : 380 ≤ bc) (h2 : 4500 ≤ bs) (K : ∀ (h' : AH) (n' : Nat) (σ' : CS), n ≤ n' → LI L xs h' n' σ' (N + 12) → SW SR0 ML_law d (bc - 380) (bs - 4500) 1944 [(4, .int (nI i)), (3, .ref 158), (2, .ref 135), (1, .ref 100), (0, .ref 0)] [] h' n' Post) : SW SR0 ML_law d bc bs 352 [(4, .int (nI i)), (3, .ref 158), (2, .ref 135), (1, .ref 100), (0, .ref 0)] [] h n Post := by
  obtain ⟨hR, ⟨th, hQ⟩, hT, hV, ⟨w, s, hO⟩, hs, hn⟩ := hI
  refine sw_aload_n (pc' := 353) rfl dL_law_352 rfl ?_
  refine sw_aload_n (pc' := 354) rfl dL_law_353 rfl ?_
  refine sw_iload (pc' := 356) rfl dL_law_354 rfl ?_
  refine sw_iconst (pc' := 357) (v := 1) rfl dL_law_356 (by decide +kernel) ?_
  refine sw_iadd (pc' := 358) rfl dL_law_357 ?_
  rw [show (nI i) + 1 = nI (i + 1) from nI_add _ _]
  refine sw_iald (j := i + 1) (pc' := 359) rfl dL_law_358 hs rfl (by omega) (by omega) ?_
  refine sw_aload_n (pc' := 360) rfl dL_law_359 rfl ?_
  refine sw_iload (pc' := 362) rfl dL_law_360 rfl ?_
  refine sw_iconst (pc' := 363) (v := 2) rfl dL_law_362 (by decide +kernel) ?_
  refine sw_iadd (pc' := 364) rfl dL_law_363 ?_
  rw [show (nI i) + 2 = nI (i + 2) from nI_add _ _]
  refine sw_iald (j := i + 2) (pc' := 365) rfl dL_law_364 hs rfl (by omega) (by omega) ?_
  refine sw_aload_n (pc' := 366) rfl dL_law_365 rfl ?_
  refine sw_S (M' := ML_take) (d' := d - 1) (bc' := 60) (bs' := 400) (as := [_, _, _, _]) dL_law_366 w_474 ok_L_take (L_take hR hT hV hN hO hn (by omega) (Nat.le_refl _) (Nat.le_refl _)) (by omega) (Nat.le_of_ble_eq_true rfl) (by omega) (by omega) (fun E h' n' _ z => lpo_x z) (lpo_k (fun p pn pw ps pk pR pO pv pF => ?_))
  refine sw_istore (pc' := 371) (lv' := [(5, _), (4, _), (3, _), (2, _), (1, _), (0, _)]) rfl dL_law_369 (by decide +kernel) rfl ?_
  refine sw_aload_n (pc' := 372) rfl dL_law_371 rfl ?_
  refine sw_aload_n (pc' := 373) rfl dL_law_372 rfl ?_
  refine sw_iload (pc' := 375) rfl dL_law_373 rfl ?_
  refine sw_iconst (pc' := 376) (v := 1) rfl dL_law_375 (by decide +kernel) ?_
  refine sw_iadd (pc' := 377) rfl dL_law_376 ?_
  rw [show (nI i) + 1 = nI (i + 1) from nI_add _ _]
  refine sw_iald (j := i + 1) (pc' := 378) rfl dL_law_377 ((pF 0 (by omega) (by omega) (by omega)).trans hs) rfl (by omega) (by omega) ?_
  refine sw_aload_n (pc' := 379) rfl dL_law_378 rfl ?_
  refine sw_iload (pc' := 381) rfl dL_law_379 rfl ?_
  refine sw_iconst (pc' := 382) (v := 2) rfl dL_law_381 (by decide +kernel) ?_
  refine sw_iadd (pc' := 383) rfl dL_law_382 ?_
  rw [show (nI i) + 2 = nI (i + 2) from nI_add _ _]
  refine sw_iald (j := i + 2) (pc' := 384) rfl dL_law_383 ((pF 0 (by omega) (by omega) (by omega)).trans hs) rfl (by omega) (by omega) ?_
  have hQ2 := hQ.fr (fun i a b => pF i (by omega) (by omega) (by omega))
  obtain ⟨ρ, τ, hM, hA⟩ := id hQ2
  refine sw_V (M' := MX5_take) (d' := d - 1) (bc' := 1) (bs' := 12) (ci := 6) (as := [_, _]) dL_law_384 w_1211 ok_X5_take (q_take hQ2 (hV.iv hN) (by omega) (by omega) (Nat.le_refl _) (Nat.le_refl _)) hM.ob rfl (by omega) (Nat.le_of_ble_eq_true rfl) (by omega) (by omega) (fun E h' n' _ z => pmc_x z) (pmc_k ox_take (fun u un ub uk uv uR uF => ?_))
  refine sw_istore (pc' := 389) (lv' := [(6, _), (5, _), (4, _), (3, _), (2, _), (1, _), (0, _)]) rfl dL_law_387 (by decide +kernel) rfl ?_
  refine sw_goto (tgt := 1944) dL_law_389 (by decide +kernel) ?_
  have J : LI L xs u un (opTake σ (xs (i + 1)) (xs (i + 2))).2 (N + 12) := ⟨pR.frT (fun i hi => uF i (by omega) (by omega)), ⟨_, uR⟩, hT.fr (fun i hi => (uF i (by omega) (by omega)).trans (pF i (by omega) (by omega) (by omega))), iv_take hV, ⟨_, _, (uF 158 (by omega) (by omega)).trans pO⟩, (uF 0 (by omega) (by omega)).trans ((pF 0 (by omega) (by omega) (by omega)).trans hs), by omega⟩
  exact SW.pick [2, 3, 4, 5, 6] rfl ((K u un _ (by omega) J).bud (by omega) (by omega))
theorem lc_3 {L : Nat} {xs : Nat → Int32} {h : AH} {n i N d bc bs : Nat} {σ : CS} {Post : ARes → AH → Nat → Prop} (hI : LI L xs h n σ N) (hN : N < 2 ^ 31) (hL : L ≤ 3072) (hi : i + 6 ≤ L) (hd : 20 ≤ d) (h1 : 380 ≤ bc) (h2 : 4500 ≤ bs) (K : ∀ (h' : AH) (n' : Nat) (σ' : CS), n ≤ n' → LI L xs h' n' σ' (N + 12) → SW SR0 ML_law d (bc - 380) (bs - 4500) 1944 [(4, .int (nI i)), (3, .ref 158), (2, .ref 135), (1, .ref 100), (0, .ref 0)] [] h' n' Post) : SW SR0 ML_law d bc bs 392 [(4, .int (nI i)), (3, .ref 158), (2, .ref 135), (1, .ref 100), (0, .ref 0)] [] h n Post := by
  obtain ⟨hR, ⟨th, hQ⟩, hT, hV, ⟨w, s, hO⟩, hs, hn⟩ := hI
  refine sw_aload_n (pc' := 393) rfl dL_law_392 rfl ?_
  refine sw_aload_n (pc' := 394) rfl dL_law_393 rfl ?_
  refine sw_iload (pc' := 396) rfl dL_law_394 rfl ?_
  refine sw_iconst (pc' := 397) (v := 1) rfl dL_law_396 (by decide +kernel) ?_
  refine sw_iadd (pc' := 398) rfl dL_law_397 ?_
  rw [show (nI i) + 1 = nI (i + 1) from nI_add _ _]
  refine sw_iald (j := i + 1) (pc' := 399) rfl dL_law_398 hs rfl (by omega) (by omega) ?_
  refine sw_aload_n (pc' := 400) rfl dL_law_399 rfl ?_
  refine sw_S (M' := ML_clear) (d' := d - 1) (bc' := 60) (bs' := 400) (as := [_, _, _]) dL_law_400 w_490 ok_L_clear (L_clear hR hT hV hN hO hn (by omega) (Nat.le_refl _) (Nat.le_refl _)) (by omega) (Nat.le_of_ble_eq_true rfl) (by omega) (by omega) (fun E h' n' _ z => lpo_x z) (lpo_k (fun p pn pw ps pk pR pO pv pF => ?_))
  refine sw_istore (pc' := 405) (lv' := [(5, _), (4, _), (3, _), (2, _), (1, _), (0, _)]) rfl dL_law_403 (by decide +kernel) rfl ?_
  refine sw_aload_n (pc' := 406) rfl dL_law_405 rfl ?_
  refine sw_aload_n (pc' := 407) rfl dL_law_406 rfl ?_
  refine sw_iload (pc' := 409) rfl dL_law_407 rfl ?_
  refine sw_iconst (pc' := 410) (v := 1) rfl dL_law_409 (by decide +kernel) ?_
  refine sw_iadd (pc' := 411) rfl dL_law_410 ?_
  rw [show (nI i) + 1 = nI (i + 1) from nI_add _ _]
  refine sw_iald (j := i + 1) (pc' := 412) rfl dL_law_411 ((pF 0 (by omega) (by omega) (by omega)).trans hs) rfl (by omega) (by omega) ?_
  have hQ2 := hQ.fr (fun i a b => pF i (by omega) (by omega) (by omega))
  obtain ⟨ρ, τ, hM, hA⟩ := id hQ2
  refine sw_V (M' := MX5_clear) (d' := d - 1) (bc' := 1) (bs' := 12) (ci := 6) (as := [_]) dL_law_412 w_1231 ok_X5_clear (q_clear hQ2 (hV.iv hN) (by omega) (by omega) (Nat.le_refl _) (Nat.le_refl _)) hM.ob rfl (by omega) (Nat.le_of_ble_eq_true rfl) (by omega) (by omega) (fun E h' n' _ z => pmc_x z) (pmc_k ox_clear (fun u un ub uk uv uR uF => ?_))
  refine sw_istore (pc' := 417) (lv' := [(6, _), (5, _), (4, _), (3, _), (2, _), (1, _), (0, _)]) rfl dL_law_415 (by decide +kernel) rfl ?_
  refine sw_goto (tgt := 1944) dL_law_417 (by decide +kernel) ?_
  have J : LI L xs u un (opClear σ (xs (i + 1))).2 (N + 12) := ⟨pR.frT (fun i hi => uF i (by omega) (by omega)), ⟨_, uR⟩, hT.fr (fun i hi => (uF i (by omega) (by omega)).trans (pF i (by omega) (by omega) (by omega))), iv_clear hV, ⟨_, _, (uF 158 (by omega) (by omega)).trans pO⟩, (uF 0 (by omega) (by omega)).trans ((pF 0 (by omega) (by omega) (by omega)).trans hs), by omega⟩
  exact SW.pick [2, 3, 4, 5, 6] rfl ((K u un _ (by omega) J).bud (by omega) (by omega))
theorem lc_4 {L : Nat} {xs : Nat → Int32} {h : AH} {n i N d bc bs : Nat} {σ : CS} {Post : ARes → AH → Nat → Prop} (hI : LI L xs h n σ N) (hN : N < 2 ^ 31) (hL : L ≤ 3072) (hi : i + 6 ≤ L) (hd : 20 ≤ d) (h1 : 380 ≤ bc) (h2 : 4500 ≤ bs) (K : ∀ (h' : AH) (n' : Nat) (σ' : CS), n ≤ n' → LI L xs h' n' σ' (N + 12) → SW SR0 ML_law d (bc - 380) (bs - 4500) 1944 [(4, .int (nI i)), (3, .ref 158), (2, .ref 135), (1, .ref 100), (0, .ref 0)] [] h' n' Post) : SW SR0 ML_law d bc bs 420 [(4, .int (nI i)), (3, .ref 158), (2, .ref 135), (1, .ref 100), (0, .ref 0)] [] h n Post := by
  obtain ⟨hR, ⟨th, hQ⟩, hT, hV, ⟨w, s, hO⟩, hs, hn⟩ := hI
  refine sw_aload_n (pc' := 421) rfl dL_law_420 rfl ?_
  refine sw_aload_n (pc' := 422) rfl dL_law_421 rfl ?_
  refine sw_iload (pc' := 424) rfl dL_law_422 rfl ?_
  refine sw_iconst (pc' := 425) (v := 1) rfl dL_law_424 (by decide +kernel) ?_
  refine sw_iadd (pc' := 426) rfl dL_law_425 ?_
  rw [show (nI i) + 1 = nI (i + 1) from nI_add _ _]
  refine sw_iald (j := i + 1) (pc' := 427) rfl dL_law_426 hs rfl (by omega) (by omega) ?_
  refine sw_aload_n (pc' := 428) rfl dL_law_427 rfl ?_
  refine sw_iload (pc' := 430) rfl dL_law_428 rfl ?_
  refine sw_iconst (pc' := 431) (v := 2) rfl dL_law_430 (by decide +kernel) ?_
  refine sw_iadd (pc' := 432) rfl dL_law_431 ?_
  rw [show (nI i) + 2 = nI (i + 2) from nI_add _ _]
  refine sw_iald (j := i + 2) (pc' := 433) rfl dL_law_432 hs rfl (by omega) (by omega) ?_
  refine sw_aload_n (pc' := 434) rfl dL_law_433 rfl ?_
  refine sw_S (M' := ML_pair) (d' := d - 1) (bc' := 60) (bs' := 400) (as := [_, _, _, _]) dL_law_434 w_501 ok_L_pair (L_pair hR hT hV hN hO hn (by omega) (Nat.le_refl _) (Nat.le_refl _)) (by omega) (Nat.le_of_ble_eq_true rfl) (by omega) (by omega) (fun E h' n' _ z => lpo_x z) (lpo_k (fun p pn pw ps pk pR pO pv pF => ?_))
  refine sw_istore (pc' := 439) (lv' := [(5, _), (4, _), (3, _), (2, _), (1, _), (0, _)]) rfl dL_law_437 (by decide +kernel) rfl ?_
  refine sw_aload_n (pc' := 440) rfl dL_law_439 rfl ?_
  refine sw_aload_n (pc' := 441) rfl dL_law_440 rfl ?_
  refine sw_iload (pc' := 443) rfl dL_law_441 rfl ?_
  refine sw_iconst (pc' := 444) (v := 1) rfl dL_law_443 (by decide +kernel) ?_
  refine sw_iadd (pc' := 445) rfl dL_law_444 ?_
  rw [show (nI i) + 1 = nI (i + 1) from nI_add _ _]
  refine sw_iald (j := i + 1) (pc' := 446) rfl dL_law_445 ((pF 0 (by omega) (by omega) (by omega)).trans hs) rfl (by omega) (by omega) ?_
  refine sw_aload_n (pc' := 447) rfl dL_law_446 rfl ?_
  refine sw_iload (pc' := 449) rfl dL_law_447 rfl ?_
  refine sw_iconst (pc' := 450) (v := 2) rfl dL_law_449 (by decide +kernel) ?_
  refine sw_iadd (pc' := 451) rfl dL_law_450 ?_
  rw [show (nI i) + 2 = nI (i + 2) from nI_add _ _]
  refine sw_iald (j := i + 2) (pc' := 452) rfl dL_law_451 ((pF 0 (by omega) (by omega) (by omega)).trans hs) rfl (by omega) (by omega) ?_
  have hQ2 := hQ.fr (fun i a b => pF i (by omega) (by omega) (by omega))
  obtain ⟨ρ, τ, hM, hA⟩ := id hQ2
  refine sw_V (M' := MX5_pair) (d' := d - 1) (bc' := 1) (bs' := 12) (ci := 6) (as := [_, _]) dL_law_452 w_1243 ok_X5_pair (q_pair hQ2 (hV.iv hN) (by omega) (by omega) (Nat.le_refl _) (Nat.le_refl _)) hM.ob rfl (by omega) (Nat.le_of_ble_eq_true rfl) (by omega) (by omega) (fun E h' n' _ z => pmc_x z) (pmc_k ox_pair (fun u un ub uk uv uR uF => ?_))
  refine sw_istore (pc' := 457) (lv' := [(6, _), (5, _), (4, _), (3, _), (2, _), (1, _), (0, _)]) rfl dL_law_455 (by decide +kernel) rfl ?_
  refine sw_goto (tgt := 1944) dL_law_457 (by decide +kernel) ?_
  have J : LI L xs u un (opPair σ (xs (i + 1)) (xs (i + 2))).2 (N + 12) := ⟨pR.frT (fun i hi => uF i (by omega) (by omega)), ⟨_, uR⟩, hT.fr (fun i hi => (uF i (by omega) (by omega)).trans (pF i (by omega) (by omega) (by omega))), iv_pair hV, ⟨_, _, (uF 158 (by omega) (by omega)).trans pO⟩, (uF 0 (by omega) (by omega)).trans ((pF 0 (by omega) (by omega) (by omega)).trans hs), by omega⟩
  exact SW.pick [2, 3, 4, 5, 6] rfl ((K u un _ (by omega) J).bud (by omega) (by omega))
theorem lc_5 {L : Nat} {xs : Nat → Int32} {h : AH} {n i N d bc bs : Nat} {σ : CS} {Post : ARes → AH → Nat → Prop} (hI : LI L xs h n σ N) (hN : N < 2 ^ 31) (hL : L ≤ 3072) (hi : i + 6 ≤ L) (hd : 20 ≤ d) (h1 : 380 ≤ bc) (h2 : 4500 ≤ bs) (K : ∀ (h' : AH) (n' : Nat) (σ' : CS), n ≤ n' → LI L xs h' n' σ' (N + 12) → SW SR0 ML_law d (bc - 380) (bs - 4500) 1944 [(4, .int (nI i)), (3, .ref 158), (2, .ref 135), (1, .ref 100), (0, .ref 0)] [] h' n' Post) : SW SR0 ML_law d bc bs 460 [(4, .int (nI i)), (3, .ref 158), (2, .ref 135), (1, .ref 100), (0, .ref 0)] [] h n Post := by
  obtain ⟨hR, ⟨th, hQ⟩, hT, hV, ⟨w, s, hO⟩, hs, hn⟩ := hI
  refine sw_aload_n (pc' := 461) rfl dL_law_460 rfl ?_
  refine sw_aload_n (pc' := 462) rfl dL_law_461 rfl ?_
  refine sw_iload (pc' := 464) rfl dL_law_462 rfl ?_
  refine sw_iconst (pc' := 465) (v := 1) rfl dL_law_464 (by decide +kernel) ?_
  refine sw_iadd (pc' := 466) rfl dL_law_465 ?_
  rw [show (nI i) + 1 = nI (i + 1) from nI_add _ _]
  refine sw_iald (j := i + 1) (pc' := 467) rfl dL_law_466 hs rfl (by omega) (by omega) ?_
  refine sw_aload_n (pc' := 468) rfl dL_law_467 rfl ?_
  refine sw_iload (pc' := 470) rfl dL_law_468 rfl ?_
  refine sw_iconst (pc' := 471) (v := 2) rfl dL_law_470 (by decide +kernel) ?_
  refine sw_iadd (pc' := 472) rfl dL_law_471 ?_
  rw [show (nI i) + 2 = nI (i + 2) from nI_add _ _]
  refine sw_iald (j := i + 2) (pc' := 473) rfl dL_law_472 hs rfl (by omega) (by omega) ?_
  refine sw_aload_n (pc' := 474) rfl dL_law_473 rfl ?_
  refine sw_S (M' := ML_pour) (d' := d - 1) (bc' := 60) (bs' := 400) (as := [_, _, _, _]) dL_law_474 w_517 ok_L_pour (L_pour hR hT hV hN hO hn (by omega) (Nat.le_refl _) (Nat.le_refl _)) (by omega) (Nat.le_of_ble_eq_true rfl) (by omega) (by omega) (fun E h' n' _ z => lpo_x z) (lpo_k (fun p pn pw ps pk pR pO pv pF => ?_))
  refine sw_istore (pc' := 479) (lv' := [(5, _), (4, _), (3, _), (2, _), (1, _), (0, _)]) rfl dL_law_477 (by decide +kernel) rfl ?_
  refine sw_aload_n (pc' := 480) rfl dL_law_479 rfl ?_
  refine sw_aload_n (pc' := 481) rfl dL_law_480 rfl ?_
  refine sw_iload (pc' := 483) rfl dL_law_481 rfl ?_
  refine sw_iconst (pc' := 484) (v := 1) rfl dL_law_483 (by decide +kernel) ?_
  refine sw_iadd (pc' := 485) rfl dL_law_484 ?_
  rw [show (nI i) + 1 = nI (i + 1) from nI_add _ _]
  refine sw_iald (j := i + 1) (pc' := 486) rfl dL_law_485 ((pF 0 (by omega) (by omega) (by omega)).trans hs) rfl (by omega) (by omega) ?_
  refine sw_aload_n (pc' := 487) rfl dL_law_486 rfl ?_
  refine sw_iload (pc' := 489) rfl dL_law_487 rfl ?_
  refine sw_iconst (pc' := 490) (v := 2) rfl dL_law_489 (by decide +kernel) ?_
  refine sw_iadd (pc' := 491) rfl dL_law_490 ?_
  rw [show (nI i) + 2 = nI (i + 2) from nI_add _ _]
  refine sw_iald (j := i + 2) (pc' := 492) rfl dL_law_491 ((pF 0 (by omega) (by omega) (by omega)).trans hs) rfl (by omega) (by omega) ?_
  have hQ2 := hQ.fr (fun i a b => pF i (by omega) (by omega) (by omega))
  obtain ⟨ρ, τ, hM, hA⟩ := id hQ2
  refine sw_V (M' := MX5_pour) (d' := d - 1) (bc' := 1) (bs' := 12) (ci := 6) (as := [_, _]) dL_law_492 w_1247 ok_X5_pour (q_pour hQ2 (hV.iv hN) (by omega) (by omega) (Nat.le_refl _) (Nat.le_refl _)) hM.ob rfl (by omega) (Nat.le_of_ble_eq_true rfl) (by omega) (by omega) (fun E h' n' _ z => pmc_x z) (pmc_k ox_pour (fun u un ub uk uv uR uF => ?_))
  refine sw_istore (pc' := 497) (lv' := [(6, _), (5, _), (4, _), (3, _), (2, _), (1, _), (0, _)]) rfl dL_law_495 (by decide +kernel) rfl ?_
  refine sw_goto (tgt := 1944) dL_law_497 (by decide +kernel) ?_
  have J : LI L xs u un (opPour σ (xs (i + 1)) (xs (i + 2))).2 (N + 12) := ⟨pR.frT (fun i hi => uF i (by omega) (by omega)), ⟨_, uR⟩, hT.fr (fun i hi => (uF i (by omega) (by omega)).trans (pF i (by omega) (by omega) (by omega))), iv_pour hV, ⟨_, _, (uF 158 (by omega) (by omega)).trans pO⟩, (uF 0 (by omega) (by omega)).trans ((pF 0 (by omega) (by omega) (by omega)).trans hs), by omega⟩
  exact SW.pick [2, 3, 4, 5, 6] rfl ((K u un _ (by omega) J).bud (by omega) (by omega))
theorem lc_6 {L : Nat} {xs : Nat → Int32} {h : AH} {n i N d bc bs : Nat} {σ : CS} {Post : ARes → AH → Nat → Prop} (hI : LI L xs h n σ N) (hN : N < 2 ^ 31) (hL : L ≤ 3072) (hi : i + 6 ≤ L) (hd : 20 ≤ d) (h1 : 380 ≤ bc) (h2 : 4500 ≤ bs) (K : ∀ (h' : AH) (n' : Nat) (σ' : CS), n ≤ n' → LI L xs h' n' σ' (N + 12) → SW SR0 ML_law d (bc - 380) (bs - 4500) 1944 [(4, .int (nI i)), (3, .ref 158), (2, .ref 135), (1, .ref 100), (0, .ref 0)] [] h' n' Post) : SW SR0 ML_law d bc bs 500 [(4, .int (nI i)), (3, .ref 158), (2, .ref 135), (1, .ref 100), (0, .ref 0)] [] h n Post := by
  obtain ⟨hR, ⟨th, hQ⟩, hT, hV, ⟨w, s, hO⟩, hs, hn⟩ := hI
  refine sw_aload_n (pc' := 501) rfl dL_law_500 rfl ?_
  refine sw_aload_n (pc' := 502) rfl dL_law_501 rfl ?_
  refine sw_iload (pc' := 504) rfl dL_law_502 rfl ?_
  refine sw_iconst (pc' := 505) (v := 1) rfl dL_law_504 (by decide +kernel) ?_
  refine sw_iadd (pc' := 506) rfl dL_law_505 ?_
  rw [show (nI i) + 1 = nI (i + 1) from nI_add _ _]
  refine sw_iald (j := i + 1) (pc' := 507) rfl dL_law_506 hs rfl (by omega) (by omega) ?_
  refine sw_aload_n (pc' := 508) rfl dL_law_507 rfl ?_
  refine sw_iload (pc' := 510) rfl dL_law_508 rfl ?_
  refine sw_iconst (pc' := 511) (v := 2) rfl dL_law_510 (by decide +kernel) ?_
  refine sw_iadd (pc' := 512) rfl dL_law_511 ?_
  rw [show (nI i) + 2 = nI (i + 2) from nI_add _ _]
  refine sw_iald (j := i + 2) (pc' := 513) rfl dL_law_512 hs rfl (by omega) (by omega) ?_
  refine sw_aload_n (pc' := 514) rfl dL_law_513 rfl ?_
  refine sw_iload (pc' := 516) rfl dL_law_514 rfl ?_
  refine sw_iconst (pc' := 517) (v := 3) rfl dL_law_516 (by decide +kernel) ?_
  refine sw_iadd (pc' := 518) rfl dL_law_517 ?_
  rw [show (nI i) + 3 = nI (i + 3) from nI_add _ _]
  refine sw_iald (j := i + 3) (pc' := 519) rfl dL_law_518 hs rfl (by omega) (by omega) ?_
  refine sw_aload_n (pc' := 520) rfl dL_law_519 rfl ?_
  refine sw_S (M' := ML_change) (d' := d - 1) (bc' := 60) (bs' := 400) (as := [_, _, _, _, _]) dL_law_520 w_534 ok_L_change (L_change hR hT hV hN hO hn (by omega) (Nat.le_refl _) (Nat.le_refl _)) (by omega) (Nat.le_of_ble_eq_true rfl) (by omega) (by omega) (fun E h' n' _ z => lpo_x z) (lpo_k (fun p pn pw ps pk pR pO pv pF => ?_))
  refine sw_istore (pc' := 525) (lv' := [(5, _), (4, _), (3, _), (2, _), (1, _), (0, _)]) rfl dL_law_523 (by decide +kernel) rfl ?_
  refine sw_aload_n (pc' := 526) rfl dL_law_525 rfl ?_
  refine sw_aload_n (pc' := 527) rfl dL_law_526 rfl ?_
  refine sw_iload (pc' := 529) rfl dL_law_527 rfl ?_
  refine sw_iconst (pc' := 530) (v := 1) rfl dL_law_529 (by decide +kernel) ?_
  refine sw_iadd (pc' := 531) rfl dL_law_530 ?_
  rw [show (nI i) + 1 = nI (i + 1) from nI_add _ _]
  refine sw_iald (j := i + 1) (pc' := 532) rfl dL_law_531 ((pF 0 (by omega) (by omega) (by omega)).trans hs) rfl (by omega) (by omega) ?_
  refine sw_aload_n (pc' := 533) rfl dL_law_532 rfl ?_
  refine sw_iload (pc' := 535) rfl dL_law_533 rfl ?_
  refine sw_iconst (pc' := 536) (v := 2) rfl dL_law_535 (by decide +kernel) ?_
  refine sw_iadd (pc' := 537) rfl dL_law_536 ?_
  rw [show (nI i) + 2 = nI (i + 2) from nI_add _ _]
  refine sw_iald (j := i + 2) (pc' := 538) rfl dL_law_537 ((pF 0 (by omega) (by omega) (by omega)).trans hs) rfl (by omega) (by omega) ?_
  refine sw_aload_n (pc' := 539) rfl dL_law_538 rfl ?_
  refine sw_iload (pc' := 541) rfl dL_law_539 rfl ?_
  refine sw_iconst (pc' := 542) (v := 3) rfl dL_law_541 (by decide +kernel) ?_
  refine sw_iadd (pc' := 543) rfl dL_law_542 ?_
  rw [show (nI i) + 3 = nI (i + 3) from nI_add _ _]
  refine sw_iald (j := i + 3) (pc' := 544) rfl dL_law_543 ((pF 0 (by omega) (by omega) (by omega)).trans hs) rfl (by omega) (by omega) ?_
  have hQ2 := hQ.fr (fun i a b => pF i (by omega) (by omega) (by omega))
  obtain ⟨ρ, τ, hM, hA⟩ := id hQ2
  refine sw_V (M' := MX5_change) (d' := d - 1) (bc' := 1) (bs' := 12) (ci := 6) (as := [_, _, _]) dL_law_544 w_1259 ok_X5_change (q_change hQ2 (hV.iv hN) (by omega) (by omega) (Nat.le_refl _) (Nat.le_refl _)) hM.ob rfl (by omega) (Nat.le_of_ble_eq_true rfl) (by omega) (by omega) (fun E h' n' _ z => pmc_x z) (pmc_k ox_change (fun u un ub uk uv uR uF => ?_))
  refine sw_istore (pc' := 549) (lv' := [(6, _), (5, _), (4, _), (3, _), (2, _), (1, _), (0, _)]) rfl dL_law_547 (by decide +kernel) rfl ?_
  refine sw_goto (tgt := 1944) dL_law_549 (by decide +kernel) ?_
  have J : LI L xs u un (opChange σ (xs (i + 1)) (xs (i + 2)) (xs (i + 3))).2 (N + 12) := ⟨pR.frT (fun i hi => uF i (by omega) (by omega)), ⟨_, uR⟩, hT.fr (fun i hi => (uF i (by omega) (by omega)).trans (pF i (by omega) (by omega) (by omega))), iv_change hV, ⟨_, _, (uF 158 (by omega) (by omega)).trans pO⟩, (uF 0 (by omega) (by omega)).trans ((pF 0 (by omega) (by omega) (by omega)).trans hs), by omega⟩
  exact SW.pick [2, 3, 4, 5, 6] rfl ((K u un _ (by omega) J).bud (by omega) (by omega))
theorem lc_7 {L : Nat} {xs : Nat → Int32} {h : AH} {n i N d bc bs : Nat} {σ : CS} {Post : ARes → AH → Nat → Prop} (hI : LI L xs h n σ N) (hN : N < 2 ^ 31) (hL : L ≤ 3072) (hi : i + 6 ≤ L) (hd : 20 ≤ d) (h1 : 380 ≤ bc) (h2 : 4500 ≤ bs) (K : ∀ (h' : AH) (n' : Nat) (σ' : CS), n ≤ n' → LI L xs h' n' σ' (N + 12) → SW SR0 ML_law d (bc - 380) (bs - 4500) 1944 [(4, .int (nI i)), (3, .ref 158), (2, .ref 135), (1, .ref 100), (0, .ref 0)] [] h' n' Post) : SW SR0 ML_law d bc bs 552 [(4, .int (nI i)), (3, .ref 158), (2, .ref 135), (1, .ref 100), (0, .ref 0)] [] h n Post := by
  obtain ⟨hR, ⟨th, hQ⟩, hT, hV, ⟨w, s, hO⟩, hs, hn⟩ := hI
  refine sw_aload_n (pc' := 553) rfl dL_law_552 rfl ?_
  refine sw_aload_n (pc' := 554) rfl dL_law_553 rfl ?_
  refine sw_iload (pc' := 556) rfl dL_law_554 rfl ?_
  refine sw_iconst (pc' := 557) (v := 1) rfl dL_law_556 (by decide +kernel) ?_
  refine sw_iadd (pc' := 558) rfl dL_law_557 ?_
  rw [show (nI i) + 1 = nI (i + 1) from nI_add _ _]
  refine sw_iald (j := i + 1) (pc' := 559) rfl dL_law_558 hs rfl (by omega) (by omega) ?_
  refine sw_aload_n (pc' := 560) rfl dL_law_559 rfl ?_
  refine sw_iload (pc' := 562) rfl dL_law_560 rfl ?_
  refine sw_iconst (pc' := 563) (v := 2) rfl dL_law_562 (by decide +kernel) ?_
  refine sw_iadd (pc' := 564) rfl dL_law_563 ?_
  rw [show (nI i) + 2 = nI (i + 2) from nI_add _ _]
  refine sw_iald (j := i + 2) (pc' := 565) rfl dL_law_564 hs rfl (by omega) (by omega) ?_
  refine sw_aload_n (pc' := 566) rfl dL_law_565 rfl ?_
  refine sw_iload (pc' := 568) rfl dL_law_566 rfl ?_
  refine sw_iconst (pc' := 569) (v := 3) rfl dL_law_568 (by decide +kernel) ?_
  refine sw_iadd (pc' := 570) rfl dL_law_569 ?_
  rw [show (nI i) + 3 = nI (i + 3) from nI_add _ _]
  refine sw_iald (j := i + 3) (pc' := 571) rfl dL_law_570 hs rfl (by omega) (by omega) ?_
  refine sw_aload_n (pc' := 572) rfl dL_law_571 rfl ?_
  refine sw_S (M' := ML_insert) (d' := d - 1) (bc' := 60) (bs' := 400) (as := [_, _, _, _, _]) dL_law_572 w_550 ok_L_insert (L_insert hR hT hV hN hO hn (by omega) (Nat.le_refl _) (Nat.le_refl _)) (by omega) (Nat.le_of_ble_eq_true rfl) (by omega) (by omega) (fun E h' n' _ z => lpo_x z) (lpo_k (fun p pn pw ps pk pR pO pv pF => ?_))
  refine sw_istore (pc' := 577) (lv' := [(5, _), (4, _), (3, _), (2, _), (1, _), (0, _)]) rfl dL_law_575 (by decide +kernel) rfl ?_
  refine sw_aload_n (pc' := 578) rfl dL_law_577 rfl ?_
  refine sw_aload_n (pc' := 579) rfl dL_law_578 rfl ?_
  refine sw_iload (pc' := 581) rfl dL_law_579 rfl ?_
  refine sw_iconst (pc' := 582) (v := 1) rfl dL_law_581 (by decide +kernel) ?_
  refine sw_iadd (pc' := 583) rfl dL_law_582 ?_
  rw [show (nI i) + 1 = nI (i + 1) from nI_add _ _]
  refine sw_iald (j := i + 1) (pc' := 584) rfl dL_law_583 ((pF 0 (by omega) (by omega) (by omega)).trans hs) rfl (by omega) (by omega) ?_
  refine sw_aload_n (pc' := 585) rfl dL_law_584 rfl ?_
  refine sw_iload (pc' := 587) rfl dL_law_585 rfl ?_
  refine sw_iconst (pc' := 588) (v := 2) rfl dL_law_587 (by decide +kernel) ?_
  refine sw_iadd (pc' := 589) rfl dL_law_588 ?_
  rw [show (nI i) + 2 = nI (i + 2) from nI_add _ _]
  refine sw_iald (j := i + 2) (pc' := 590) rfl dL_law_589 ((pF 0 (by omega) (by omega) (by omega)).trans hs) rfl (by omega) (by omega) ?_
  refine sw_aload_n (pc' := 591) rfl dL_law_590 rfl ?_
  refine sw_iload (pc' := 593) rfl dL_law_591 rfl ?_
  refine sw_iconst (pc' := 594) (v := 3) rfl dL_law_593 (by decide +kernel) ?_
  refine sw_iadd (pc' := 595) rfl dL_law_594 ?_
  rw [show (nI i) + 3 = nI (i + 3) from nI_add _ _]
  refine sw_iald (j := i + 3) (pc' := 596) rfl dL_law_595 ((pF 0 (by omega) (by omega) (by omega)).trans hs) rfl (by omega) (by omega) ?_
  have hQ2 := hQ.fr (fun i a b => pF i (by omega) (by omega) (by omega))
  obtain ⟨ρ, τ, hM, hA⟩ := id hQ2
  refine sw_V (M' := MX5_insert) (d' := d - 1) (bc' := 1) (bs' := 12) (ci := 6) (as := [_, _, _]) dL_law_596 w_1270 ok_X5_insert (q_insert hQ2 (hV.iv hN) (by omega) (by omega) (Nat.le_refl _) (Nat.le_refl _)) hM.ob rfl (by omega) (Nat.le_of_ble_eq_true rfl) (by omega) (by omega) (fun E h' n' _ z => pmc_x z) (pmc_k ox_insert (fun u un ub uk uv uR uF => ?_))
  refine sw_istore (pc' := 601) (lv' := [(6, _), (5, _), (4, _), (3, _), (2, _), (1, _), (0, _)]) rfl dL_law_599 (by decide +kernel) rfl ?_
  refine sw_goto (tgt := 1944) dL_law_601 (by decide +kernel) ?_
  have J : LI L xs u un (opInsert σ (xs (i + 1)) (xs (i + 2)) (xs (i + 3))).2 (N + 12) := ⟨pR.frT (fun i hi => uF i (by omega) (by omega)), ⟨_, uR⟩, hT.fr (fun i hi => (uF i (by omega) (by omega)).trans (pF i (by omega) (by omega) (by omega))), iv_insert hV, ⟨_, _, (uF 158 (by omega) (by omega)).trans pO⟩, (uF 0 (by omega) (by omega)).trans ((pF 0 (by omega) (by omega) (by omega)).trans hs), by omega⟩
  exact SW.pick [2, 3, 4, 5, 6] rfl ((K u un _ (by omega) J).bud (by omega) (by omega))
theorem lc_8 {L : Nat} {xs : Nat → Int32} {h : AH} {n i N d bc bs : Nat} {σ : CS} {Post : ARes → AH → Nat → Prop} (hI : LI L xs h n σ N) (hN : N < 2 ^ 31) (hL : L ≤ 3072) (hi : i + 6 ≤ L) (hd : 20 ≤ d) (h1 : 380 ≤ bc) (h2 : 4500 ≤ bs) (K : ∀ (h' : AH) (n' : Nat) (σ' : CS), n ≤ n' → LI L xs h' n' σ' (N + 12) → SW SR0 ML_law d (bc - 380) (bs - 4500) 1944 [(4, .int (nI i)), (3, .ref 158), (2, .ref 135), (1, .ref 100), (0, .ref 0)] [] h' n' Post) : SW SR0 ML_law d bc bs 604 [(4, .int (nI i)), (3, .ref 158), (2, .ref 135), (1, .ref 100), (0, .ref 0)] [] h n Post := by
  obtain ⟨hR, ⟨th, hQ⟩, hT, hV, ⟨w, s, hO⟩, hs, hn⟩ := hI
  refine sw_aload_n (pc' := 605) rfl dL_law_604 rfl ?_
  refine sw_aload_n (pc' := 606) rfl dL_law_605 rfl ?_
  refine sw_iload (pc' := 608) rfl dL_law_606 rfl ?_
  refine sw_iconst (pc' := 609) (v := 1) rfl dL_law_608 (by decide +kernel) ?_
  refine sw_iadd (pc' := 610) rfl dL_law_609 ?_
  rw [show (nI i) + 1 = nI (i + 1) from nI_add _ _]
  refine sw_iald (j := i + 1) (pc' := 611) rfl dL_law_610 hs rfl (by omega) (by omega) ?_
  refine sw_aload_n (pc' := 612) rfl dL_law_611 rfl ?_
  refine sw_iload (pc' := 614) rfl dL_law_612 rfl ?_
  refine sw_iconst (pc' := 615) (v := 2) rfl dL_law_614 (by decide +kernel) ?_
  refine sw_iadd (pc' := 616) rfl dL_law_615 ?_
  rw [show (nI i) + 2 = nI (i + 2) from nI_add _ _]
  refine sw_iald (j := i + 2) (pc' := 617) rfl dL_law_616 hs rfl (by omega) (by omega) ?_
  refine sw_aload_n (pc' := 618) rfl dL_law_617 rfl ?_
  refine sw_S (M' := ML_remove) (d' := d - 1) (bc' := 60) (bs' := 400) (as := [_, _, _, _]) dL_law_618 w_557 ok_L_remove (L_remove hR hT hV hN hO hn (by omega) (Nat.le_refl _) (Nat.le_refl _)) (by omega) (Nat.le_of_ble_eq_true rfl) (by omega) (by omega) (fun E h' n' _ z => lpo_x z) (lpo_k (fun p pn pw ps pk pR pO pv pF => ?_))
  refine sw_istore (pc' := 623) (lv' := [(5, _), (4, _), (3, _), (2, _), (1, _), (0, _)]) rfl dL_law_621 (by decide +kernel) rfl ?_
  refine sw_aload_n (pc' := 624) rfl dL_law_623 rfl ?_
  refine sw_aload_n (pc' := 625) rfl dL_law_624 rfl ?_
  refine sw_iload (pc' := 627) rfl dL_law_625 rfl ?_
  refine sw_iconst (pc' := 628) (v := 1) rfl dL_law_627 (by decide +kernel) ?_
  refine sw_iadd (pc' := 629) rfl dL_law_628 ?_
  rw [show (nI i) + 1 = nI (i + 1) from nI_add _ _]
  refine sw_iald (j := i + 1) (pc' := 630) rfl dL_law_629 ((pF 0 (by omega) (by omega) (by omega)).trans hs) rfl (by omega) (by omega) ?_
  refine sw_aload_n (pc' := 631) rfl dL_law_630 rfl ?_
  refine sw_iload (pc' := 633) rfl dL_law_631 rfl ?_
  refine sw_iconst (pc' := 634) (v := 2) rfl dL_law_633 (by decide +kernel) ?_
  refine sw_iadd (pc' := 635) rfl dL_law_634 ?_
  rw [show (nI i) + 2 = nI (i + 2) from nI_add _ _]
  refine sw_iald (j := i + 2) (pc' := 636) rfl dL_law_635 ((pF 0 (by omega) (by omega) (by omega)).trans hs) rfl (by omega) (by omega) ?_
  have hQ2 := hQ.fr (fun i a b => pF i (by omega) (by omega) (by omega))
  obtain ⟨ρ, τ, hM, hA⟩ := id hQ2
  refine sw_V (M' := MX5_remove) (d' := d - 1) (bc' := 1) (bs' := 12) (ci := 6) (as := [_, _]) dL_law_636 w_1274 ok_X5_remove (q_remove hQ2 (hV.iv hN) (by omega) (by omega) (Nat.le_refl _) (Nat.le_refl _)) hM.ob rfl (by omega) (Nat.le_of_ble_eq_true rfl) (by omega) (by omega) (fun E h' n' _ z => pmc_x z) (pmc_k ox_remove (fun u un ub uk uv uR uF => ?_))
  refine sw_istore (pc' := 641) (lv' := [(6, _), (5, _), (4, _), (3, _), (2, _), (1, _), (0, _)]) rfl dL_law_639 (by decide +kernel) rfl ?_
  refine sw_goto (tgt := 1944) dL_law_641 (by decide +kernel) ?_
  have J : LI L xs u un (opRemove σ (xs (i + 1)) (xs (i + 2))).2 (N + 12) := ⟨pR.frT (fun i hi => uF i (by omega) (by omega)), ⟨_, uR⟩, hT.fr (fun i hi => (uF i (by omega) (by omega)).trans (pF i (by omega) (by omega) (by omega))), iv_remove hV, ⟨_, _, (uF 158 (by omega) (by omega)).trans pO⟩, (uF 0 (by omega) (by omega)).trans ((pF 0 (by omega) (by omega) (by omega)).trans hs), by omega⟩
  exact SW.pick [2, 3, 4, 5, 6] rfl ((K u un _ (by omega) J).bud (by omega) (by omega))
theorem lc_9 {L : Nat} {xs : Nat → Int32} {h : AH} {n i N d bc bs : Nat} {σ : CS} {Post : ARes → AH → Nat → Prop} (hI : LI L xs h n σ N) (hN : N < 2 ^ 31) (hL : L ≤ 3072) (hi : i + 6 ≤ L) (hd : 20 ≤ d) (h1 : 380 ≤ bc) (h2 : 4500 ≤ bs) (K : ∀ (h' : AH) (n' : Nat) (σ' : CS), n ≤ n' → LI L xs h' n' σ' (N + 12) → SW SR0 ML_law d (bc - 380) (bs - 4500) 1944 [(4, .int (nI i)), (3, .ref 158), (2, .ref 135), (1, .ref 100), (0, .ref 0)] [] h' n' Post) : SW SR0 ML_law d bc bs 644 [(4, .int (nI i)), (3, .ref 158), (2, .ref 135), (1, .ref 100), (0, .ref 0)] [] h n Post := by
  obtain ⟨hR, ⟨th, hQ⟩, hT, hV, ⟨w, s, hO⟩, hs, hn⟩ := hI
  refine sw_aload_n (pc' := 645) rfl dL_law_644 rfl ?_
  refine sw_aload_n (pc' := 646) rfl dL_law_645 rfl ?_
  refine sw_iload (pc' := 648) rfl dL_law_646 rfl ?_
  refine sw_iconst (pc' := 649) (v := 1) rfl dL_law_648 (by decide +kernel) ?_
  refine sw_iadd (pc' := 650) rfl dL_law_649 ?_
  rw [show (nI i) + 1 = nI (i + 1) from nI_add _ _]
  refine sw_iald (j := i + 1) (pc' := 651) rfl dL_law_650 hs rfl (by omega) (by omega) ?_
  refine sw_aload_n (pc' := 652) rfl dL_law_651 rfl ?_
  refine sw_S (M' := ML_turn) (d' := d - 1) (bc' := 60) (bs' := 400) (as := [_, _, _]) dL_law_652 w_564 ok_L_turn (L_turn hR hT hV hN hO hn (by omega) (Nat.le_refl _) (Nat.le_refl _)) (by omega) (Nat.le_of_ble_eq_true rfl) (by omega) (by omega) (fun E h' n' _ z => lpo_x z) (lpo_k (fun p pn pw ps pk pR pO pv pF => ?_))
  refine sw_istore (pc' := 657) (lv' := [(5, _), (4, _), (3, _), (2, _), (1, _), (0, _)]) rfl dL_law_655 (by decide +kernel) rfl ?_
  refine sw_aload_n (pc' := 658) rfl dL_law_657 rfl ?_
  refine sw_aload_n (pc' := 659) rfl dL_law_658 rfl ?_
  refine sw_iload (pc' := 661) rfl dL_law_659 rfl ?_
  refine sw_iconst (pc' := 662) (v := 1) rfl dL_law_661 (by decide +kernel) ?_
  refine sw_iadd (pc' := 663) rfl dL_law_662 ?_
  rw [show (nI i) + 1 = nI (i + 1) from nI_add _ _]
  refine sw_iald (j := i + 1) (pc' := 664) rfl dL_law_663 ((pF 0 (by omega) (by omega) (by omega)).trans hs) rfl (by omega) (by omega) ?_
  have hQ2 := hQ.fr (fun i a b => pF i (by omega) (by omega) (by omega))
  obtain ⟨ρ, τ, hM, hA⟩ := id hQ2
  refine sw_V (M' := MX5_turn) (d' := d - 1) (bc' := 1) (bs' := 12) (ci := 6) (as := [_]) dL_law_664 w_1278 ok_X5_turn (q_turn hQ2 (hV.iv hN) (by omega) (by omega) (Nat.le_refl _) (Nat.le_refl _)) hM.ob rfl (by omega) (Nat.le_of_ble_eq_true rfl) (by omega) (by omega) (fun E h' n' _ z => pmc_x z) (pmc_k ox_turn (fun u un ub uk uv uR uF => ?_))
  refine sw_istore (pc' := 669) (lv' := [(6, _), (5, _), (4, _), (3, _), (2, _), (1, _), (0, _)]) rfl dL_law_667 (by decide +kernel) rfl ?_
  refine sw_goto (tgt := 1944) dL_law_669 (by decide +kernel) ?_
  have J : LI L xs u un (opTurn σ (xs (i + 1))).2 (N + 12) := ⟨pR.frT (fun i hi => uF i (by omega) (by omega)), ⟨_, uR⟩, hT.fr (fun i hi => (uF i (by omega) (by omega)).trans (pF i (by omega) (by omega) (by omega))), iv_turn hV, ⟨_, _, (uF 158 (by omega) (by omega)).trans pO⟩, (uF 0 (by omega) (by omega)).trans ((pF 0 (by omega) (by omega) (by omega)).trans hs), by omega⟩
  exact SW.pick [2, 3, 4, 5, 6] rfl ((K u un _ (by omega) J).bud (by omega) (by omega))
theorem lc_10 {L : Nat} {xs : Nat → Int32} {h : AH} {n i N d bc bs : Nat} {σ : CS} {Post : ARes → AH → Nat → Prop} (hI : LI L xs h n σ N) (hN : N < 2 ^ 31) (hL : L ≤ 3072) (hi : i + 6 ≤ L) (hd : 20 ≤ d) (h1 : 380 ≤ bc) (h2 : 4500 ≤ bs) (K : ∀ (h' : AH) (n' : Nat) (σ' : CS), n ≤ n' → LI L xs h' n' σ' (N + 12) → SW SR0 ML_law d (bc - 380) (bs - 4500) 1944 [(4, .int (nI i)), (3, .ref 158), (2, .ref 135), (1, .ref 100), (0, .ref 0)] [] h' n' Post) : SW SR0 ML_law d bc bs 672 [(4, .int (nI i)), (3, .ref 158), (2, .ref 135), (1, .ref 100), (0, .ref 0)] [] h n Post := by
  obtain ⟨hR, ⟨th, hQ⟩, hT, hV, ⟨w, s, hO⟩, hs, hn⟩ := hI
  refine sw_aload_n (pc' := 673) rfl dL_law_672 rfl ?_
  refine sw_aload_n (pc' := 674) rfl dL_law_673 rfl ?_
  refine sw_iload (pc' := 676) rfl dL_law_674 rfl ?_
  refine sw_iconst (pc' := 677) (v := 1) rfl dL_law_676 (by decide +kernel) ?_
  refine sw_iadd (pc' := 678) rfl dL_law_677 ?_
  rw [show (nI i) + 1 = nI (i + 1) from nI_add _ _]
  refine sw_iald (j := i + 1) (pc' := 679) rfl dL_law_678 hs rfl (by omega) (by omega) ?_
  refine sw_aload_n (pc' := 680) rfl dL_law_679 rfl ?_
  refine sw_iload (pc' := 682) rfl dL_law_680 rfl ?_
  refine sw_iconst (pc' := 683) (v := 2) rfl dL_law_682 (by decide +kernel) ?_
  refine sw_iadd (pc' := 684) rfl dL_law_683 ?_
  rw [show (nI i) + 2 = nI (i + 2) from nI_add _ _]
  refine sw_iald (j := i + 2) (pc' := 685) rfl dL_law_684 hs rfl (by omega) (by omega) ?_
  refine sw_aload_n (pc' := 686) rfl dL_law_685 rfl ?_
  refine sw_S (M' := ML_rotate) (d' := d - 1) (bc' := 60) (bs' := 400) (as := [_, _, _, _]) dL_law_686 w_576 ok_L_rotate (L_rotate hR hT hV hN hO hn (by omega) (Nat.le_refl _) (Nat.le_refl _)) (by omega) (Nat.le_of_ble_eq_true rfl) (by omega) (by omega) (fun E h' n' _ z => lpo_x z) (lpo_k (fun p pn pw ps pk pR pO pv pF => ?_))
  refine sw_istore (pc' := 691) (lv' := [(5, _), (4, _), (3, _), (2, _), (1, _), (0, _)]) rfl dL_law_689 (by decide +kernel) rfl ?_
  refine sw_aload_n (pc' := 692) rfl dL_law_691 rfl ?_
  refine sw_aload_n (pc' := 693) rfl dL_law_692 rfl ?_
  refine sw_iload (pc' := 695) rfl dL_law_693 rfl ?_
  refine sw_iconst (pc' := 696) (v := 1) rfl dL_law_695 (by decide +kernel) ?_
  refine sw_iadd (pc' := 697) rfl dL_law_696 ?_
  rw [show (nI i) + 1 = nI (i + 1) from nI_add _ _]
  refine sw_iald (j := i + 1) (pc' := 698) rfl dL_law_697 ((pF 0 (by omega) (by omega) (by omega)).trans hs) rfl (by omega) (by omega) ?_
  refine sw_aload_n (pc' := 699) rfl dL_law_698 rfl ?_
  refine sw_iload (pc' := 701) rfl dL_law_699 rfl ?_
  refine sw_iconst (pc' := 702) (v := 2) rfl dL_law_701 (by decide +kernel) ?_
  refine sw_iadd (pc' := 703) rfl dL_law_702 ?_
  rw [show (nI i) + 2 = nI (i + 2) from nI_add _ _]
  refine sw_iald (j := i + 2) (pc' := 704) rfl dL_law_703 ((pF 0 (by omega) (by omega) (by omega)).trans hs) rfl (by omega) (by omega) ?_
  have hQ2 := hQ.fr (fun i a b => pF i (by omega) (by omega) (by omega))
  obtain ⟨ρ, τ, hM, hA⟩ := id hQ2
  refine sw_V (M' := MX5_rotate) (d' := d - 1) (bc' := 1) (bs' := 12) (ci := 6) (as := [_, _]) dL_law_704 w_1282 ok_X5_rotate (q_rotate hQ2 (hV.iv hN) (by omega) (by omega) (Nat.le_refl _) (Nat.le_refl _)) hM.ob rfl (by omega) (Nat.le_of_ble_eq_true rfl) (by omega) (by omega) (fun E h' n' _ z => pmc_x z) (pmc_k ox_rotate (fun u un ub uk uv uR uF => ?_))
  refine sw_istore (pc' := 709) (lv' := [(6, _), (5, _), (4, _), (3, _), (2, _), (1, _), (0, _)]) rfl dL_law_707 (by decide +kernel) rfl ?_
  refine sw_goto (tgt := 1944) dL_law_709 (by decide +kernel) ?_
  have J : LI L xs u un (opRotate σ (xs (i + 1)) (xs (i + 2))).2 (N + 12) := ⟨pR.frT (fun i hi => uF i (by omega) (by omega)), ⟨_, uR⟩, hT.fr (fun i hi => (uF i (by omega) (by omega)).trans (pF i (by omega) (by omega) (by omega))), iv_rotate hV, ⟨_, _, (uF 158 (by omega) (by omega)).trans pO⟩, (uF 0 (by omega) (by omega)).trans ((pF 0 (by omega) (by omega) (by omega)).trans hs), by omega⟩
  exact SW.pick [2, 3, 4, 5, 6] rfl ((K u un _ (by omega) J).bud (by omega) (by omega))
theorem lc_11 {L : Nat} {xs : Nat → Int32} {h : AH} {n i N d bc bs : Nat} {σ : CS} {Post : ARes → AH → Nat → Prop} (hI : LI L xs h n σ N) (hN : N < 2 ^ 31) (hL : L ≤ 3072) (hi : i + 6 ≤ L) (hd : 20 ≤ d) (h1 : 380 ≤ bc) (h2 : 4500 ≤ bs) (K : ∀ (h' : AH) (n' : Nat) (σ' : CS), n ≤ n' → LI L xs h' n' σ' (N + 12) → SW SR0 ML_law d (bc - 380) (bs - 4500) 1944 [(4, .int (nI i)), (3, .ref 158), (2, .ref 135), (1, .ref 100), (0, .ref 0)] [] h' n' Post) : SW SR0 ML_law d bc bs 712 [(4, .int (nI i)), (3, .ref 158), (2, .ref 135), (1, .ref 100), (0, .ref 0)] [] h n Post := by
  obtain ⟨hR, ⟨th, hQ⟩, hT, hV, ⟨w, s, hO⟩, hs, hn⟩ := hI
  refine sw_aload_n (pc' := 713) rfl dL_law_712 rfl ?_
  refine sw_aload_n (pc' := 714) rfl dL_law_713 rfl ?_
  refine sw_iload (pc' := 716) rfl dL_law_714 rfl ?_
  refine sw_iconst (pc' := 717) (v := 1) rfl dL_law_716 (by decide +kernel) ?_
  refine sw_iadd (pc' := 718) rfl dL_law_717 ?_
  rw [show (nI i) + 1 = nI (i + 1) from nI_add _ _]
  refine sw_iald (j := i + 1) (pc' := 719) rfl dL_law_718 hs rfl (by omega) (by omega) ?_
  refine sw_aload_n (pc' := 720) rfl dL_law_719 rfl ?_
  refine sw_iload (pc' := 722) rfl dL_law_720 rfl ?_
  refine sw_iconst (pc' := 723) (v := 2) rfl dL_law_722 (by decide +kernel) ?_
  refine sw_iadd (pc' := 724) rfl dL_law_723 ?_
  rw [show (nI i) + 2 = nI (i + 2) from nI_add _ _]
  refine sw_iald (j := i + 2) (pc' := 725) rfl dL_law_724 hs rfl (by omega) (by omega) ?_
  refine sw_aload_n (pc' := 726) rfl dL_law_725 rfl ?_
  refine sw_iload (pc' := 728) rfl dL_law_726 rfl ?_
  refine sw_iconst (pc' := 729) (v := 3) rfl dL_law_728 (by decide +kernel) ?_
  refine sw_iadd (pc' := 730) rfl dL_law_729 ?_
  rw [show (nI i) + 3 = nI (i + 3) from nI_add _ _]
  refine sw_iald (j := i + 3) (pc' := 731) rfl dL_law_730 hs rfl (by omega) (by omega) ?_
  refine sw_aload_n (pc' := 732) rfl dL_law_731 rfl ?_
  refine sw_S (M' := ML_swap) (d' := d - 1) (bc' := 60) (bs' := 400) (as := [_, _, _, _, _]) dL_law_732 w_592 ok_L_swap (L_swap hR hT hV hN hO hn (by omega) (Nat.le_refl _) (Nat.le_refl _)) (by omega) (Nat.le_of_ble_eq_true rfl) (by omega) (by omega) (fun E h' n' _ z => lpo_x z) (lpo_k (fun p pn pw ps pk pR pO pv pF => ?_))
  refine sw_istore (pc' := 737) (lv' := [(5, _), (4, _), (3, _), (2, _), (1, _), (0, _)]) rfl dL_law_735 (by decide +kernel) rfl ?_
  refine sw_aload_n (pc' := 738) rfl dL_law_737 rfl ?_
  refine sw_aload_n (pc' := 739) rfl dL_law_738 rfl ?_
  refine sw_iload (pc' := 741) rfl dL_law_739 rfl ?_
  refine sw_iconst (pc' := 742) (v := 1) rfl dL_law_741 (by decide +kernel) ?_
  refine sw_iadd (pc' := 743) rfl dL_law_742 ?_
  rw [show (nI i) + 1 = nI (i + 1) from nI_add _ _]
  refine sw_iald (j := i + 1) (pc' := 744) rfl dL_law_743 ((pF 0 (by omega) (by omega) (by omega)).trans hs) rfl (by omega) (by omega) ?_
  refine sw_aload_n (pc' := 745) rfl dL_law_744 rfl ?_
  refine sw_iload (pc' := 747) rfl dL_law_745 rfl ?_
  refine sw_iconst (pc' := 748) (v := 2) rfl dL_law_747 (by decide +kernel) ?_
  refine sw_iadd (pc' := 749) rfl dL_law_748 ?_
  rw [show (nI i) + 2 = nI (i + 2) from nI_add _ _]
  refine sw_iald (j := i + 2) (pc' := 750) rfl dL_law_749 ((pF 0 (by omega) (by omega) (by omega)).trans hs) rfl (by omega) (by omega) ?_
  refine sw_aload_n (pc' := 751) rfl dL_law_750 rfl ?_
  refine sw_iload (pc' := 753) rfl dL_law_751 rfl ?_
  refine sw_iconst (pc' := 754) (v := 3) rfl dL_law_753 (by decide +kernel) ?_
  refine sw_iadd (pc' := 755) rfl dL_law_754 ?_
  rw [show (nI i) + 3 = nI (i + 3) from nI_add _ _]
  refine sw_iald (j := i + 3) (pc' := 756) rfl dL_law_755 ((pF 0 (by omega) (by omega) (by omega)).trans hs) rfl (by omega) (by omega) ?_
  have hQ2 := hQ.fr (fun i a b => pF i (by omega) (by omega) (by omega))
  obtain ⟨ρ, τ, hM, hA⟩ := id hQ2
  refine sw_V (M' := MX5_swap) (d' := d - 1) (bc' := 1) (bs' := 12) (ci := 6) (as := [_, _, _]) dL_law_756 w_1286 ok_X5_swap (q_swap hQ2 (hV.iv hN) (by omega) (by omega) (Nat.le_refl _) (Nat.le_refl _)) hM.ob rfl (by omega) (Nat.le_of_ble_eq_true rfl) (by omega) (by omega) (fun E h' n' _ z => pmc_x z) (pmc_k ox_swap (fun u un ub uk uv uR uF => ?_))
  refine sw_istore (pc' := 761) (lv' := [(6, _), (5, _), (4, _), (3, _), (2, _), (1, _), (0, _)]) rfl dL_law_759 (by decide +kernel) rfl ?_
  refine sw_goto (tgt := 1944) dL_law_761 (by decide +kernel) ?_
  have J : LI L xs u un (opSwap σ (xs (i + 1)) (xs (i + 2)) (xs (i + 3))).2 (N + 12) := ⟨pR.frT (fun i hi => uF i (by omega) (by omega)), ⟨_, uR⟩, hT.fr (fun i hi => (uF i (by omega) (by omega)).trans (pF i (by omega) (by omega) (by omega))), iv_swap hV, ⟨_, _, (uF 158 (by omega) (by omega)).trans pO⟩, (uF 0 (by omega) (by omega)).trans ((pF 0 (by omega) (by omega) (by omega)).trans hs), by omega⟩
  exact SW.pick [2, 3, 4, 5, 6] rfl ((K u un _ (by omega) J).bud (by omega) (by omega))
theorem lc_12 {L : Nat} {xs : Nat → Int32} {h : AH} {n i N d bc bs : Nat} {σ : CS} {Post : ARes → AH → Nat → Prop} (hI : LI L xs h n σ N) (hN : N < 2 ^ 31) (hL : L ≤ 3072) (hi : i + 6 ≤ L) (hd : 20 ≤ d) (h1 : 380 ≤ bc) (h2 : 4500 ≤ bs) (K : ∀ (h' : AH) (n' : Nat) (σ' : CS), n ≤ n' → LI L xs h' n' σ' (N + 12) → SW SR0 ML_law d (bc - 380) (bs - 4500) 1944 [(4, .int (nI i)), (3, .ref 158), (2, .ref 135), (1, .ref 100), (0, .ref 0)] [] h' n' Post) : SW SR0 ML_law d bc bs 764 [(4, .int (nI i)), (3, .ref 158), (2, .ref 135), (1, .ref 100), (0, .ref 0)] [] h n Post := by
  obtain ⟨hR, ⟨th, hQ⟩, hT, hV, ⟨w, s, hO⟩, hs, hn⟩ := hI
  refine sw_aload_n (pc' := 765) rfl dL_law_764 rfl ?_
  refine sw_aload_n (pc' := 766) rfl dL_law_765 rfl ?_
  refine sw_iload (pc' := 768) rfl dL_law_766 rfl ?_
  refine sw_iconst (pc' := 769) (v := 1) rfl dL_law_768 (by decide +kernel) ?_
  refine sw_iadd (pc' := 770) rfl dL_law_769 ?_
  rw [show (nI i) + 1 = nI (i + 1) from nI_add _ _]
  refine sw_iald (j := i + 1) (pc' := 771) rfl dL_law_770 hs rfl (by omega) (by omega) ?_
  refine sw_aload_n (pc' := 772) rfl dL_law_771 rfl ?_
  refine sw_iload (pc' := 774) rfl dL_law_772 rfl ?_
  refine sw_iconst (pc' := 775) (v := 2) rfl dL_law_774 (by decide +kernel) ?_
  refine sw_iadd (pc' := 776) rfl dL_law_775 ?_
  rw [show (nI i) + 2 = nI (i + 2) from nI_add _ _]
  refine sw_iald (j := i + 2) (pc' := 777) rfl dL_law_776 hs rfl (by omega) (by omega) ?_
  refine sw_aload_n (pc' := 778) rfl dL_law_777 rfl ?_
  refine sw_S (M' := ML_fill) (d' := d - 1) (bc' := 60) (bs' := 400) (as := [_, _, _, _]) dL_law_778 w_599 ok_L_fill (L_fill hR hT hV hN hO hn (by omega) (Nat.le_refl _) (Nat.le_refl _)) (by omega) (Nat.le_of_ble_eq_true rfl) (by omega) (by omega) (fun E h' n' _ z => lpo_x z) (lpo_k (fun p pn pw ps pk pR pO pv pF => ?_))
  refine sw_istore (pc' := 783) (lv' := [(5, _), (4, _), (3, _), (2, _), (1, _), (0, _)]) rfl dL_law_781 (by decide +kernel) rfl ?_
  refine sw_aload_n (pc' := 784) rfl dL_law_783 rfl ?_
  refine sw_aload_n (pc' := 785) rfl dL_law_784 rfl ?_
  refine sw_iload (pc' := 787) rfl dL_law_785 rfl ?_
  refine sw_iconst (pc' := 788) (v := 1) rfl dL_law_787 (by decide +kernel) ?_
  refine sw_iadd (pc' := 789) rfl dL_law_788 ?_
  rw [show (nI i) + 1 = nI (i + 1) from nI_add _ _]
  refine sw_iald (j := i + 1) (pc' := 790) rfl dL_law_789 ((pF 0 (by omega) (by omega) (by omega)).trans hs) rfl (by omega) (by omega) ?_
  refine sw_aload_n (pc' := 791) rfl dL_law_790 rfl ?_
  refine sw_iload (pc' := 793) rfl dL_law_791 rfl ?_
  refine sw_iconst (pc' := 794) (v := 2) rfl dL_law_793 (by decide +kernel) ?_
  refine sw_iadd (pc' := 795) rfl dL_law_794 ?_
  rw [show (nI i) + 2 = nI (i + 2) from nI_add _ _]
  refine sw_iald (j := i + 2) (pc' := 796) rfl dL_law_795 ((pF 0 (by omega) (by omega) (by omega)).trans hs) rfl (by omega) (by omega) ?_
  have hQ2 := hQ.fr (fun i a b => pF i (by omega) (by omega) (by omega))
  obtain ⟨ρ, τ, hM, hA⟩ := id hQ2
  refine sw_V (M' := MX5_fill) (d' := d - 1) (bc' := 1) (bs' := 12) (ci := 6) (as := [_, _]) dL_law_796 w_1290 ok_X5_fill (q_fill hQ2 (hV.iv hN) (by omega) (by omega) (Nat.le_refl _) (Nat.le_refl _)) hM.ob rfl (by omega) (Nat.le_of_ble_eq_true rfl) (by omega) (by omega) (fun E h' n' _ z => pmc_x z) (pmc_k ox_fill (fun u un ub uk uv uR uF => ?_))
  refine sw_istore (pc' := 801) (lv' := [(6, _), (5, _), (4, _), (3, _), (2, _), (1, _), (0, _)]) rfl dL_law_799 (by decide +kernel) rfl ?_
  refine sw_goto (tgt := 1944) dL_law_801 (by decide +kernel) ?_
  have J : LI L xs u un (opFill σ (xs (i + 1)) (xs (i + 2))).2 (N + 12) := ⟨pR.frT (fun i hi => uF i (by omega) (by omega)), ⟨_, uR⟩, hT.fr (fun i hi => (uF i (by omega) (by omega)).trans (pF i (by omega) (by omega) (by omega))), iv_fill hV, ⟨_, _, (uF 158 (by omega) (by omega)).trans pO⟩, (uF 0 (by omega) (by omega)).trans ((pF 0 (by omega) (by omega) (by omega)).trans hs), by omega⟩
  exact SW.pick [2, 3, 4, 5, 6] rfl ((K u un _ (by omega) J).bud (by omega) (by omega))
theorem lc_13 {L : Nat} {xs : Nat → Int32} {h : AH} {n i N d bc bs : Nat} {σ : CS} {Post : ARes → AH → Nat → Prop} (hI : LI L xs h n σ N) (hN : N < 2 ^ 31) (hL : L ≤ 3072) (hi : i + 6 ≤ L) (hd : 20 ≤ d) (h1 : 380 ≤ bc) (h2 : 4500 ≤ bs) (K : ∀ (h' : AH) (n' : Nat) (σ' : CS), n ≤ n' → LI L xs h' n' σ' (N + 12) → SW SR0 ML_law d (bc - 380) (bs - 4500) 1944 [(4, .int (nI i)), (3, .ref 158), (2, .ref 135), (1, .ref 100), (0, .ref 0)] [] h' n' Post) : SW SR0 ML_law d bc bs 804 [(4, .int (nI i)), (3, .ref 158), (2, .ref 135), (1, .ref 100), (0, .ref 0)] [] h n Post := by
  obtain ⟨hR, ⟨th, hQ⟩, hT, hV, ⟨w, s, hO⟩, hs, hn⟩ := hI
  refine sw_aload_n (pc' := 805) rfl dL_law_804 rfl ?_
  refine sw_aload_n (pc' := 806) rfl dL_law_805 rfl ?_
  refine sw_iload (pc' := 808) rfl dL_law_806 rfl ?_
  refine sw_iconst (pc' := 809) (v := 1) rfl dL_law_808 (by decide +kernel) ?_
  refine sw_iadd (pc' := 810) rfl dL_law_809 ?_
  rw [show (nI i) + 1 = nI (i + 1) from nI_add _ _]
  refine sw_iald (j := i + 1) (pc' := 811) rfl dL_law_810 hs rfl (by omega) (by omega) ?_
  refine sw_aload_n (pc' := 812) rfl dL_law_811 rfl ?_
  refine sw_iload (pc' := 814) rfl dL_law_812 rfl ?_
  refine sw_iconst (pc' := 815) (v := 2) rfl dL_law_814 (by decide +kernel) ?_
  refine sw_iadd (pc' := 816) rfl dL_law_815 ?_
  rw [show (nI i) + 2 = nI (i + 2) from nI_add _ _]
  refine sw_iald (j := i + 2) (pc' := 817) rfl dL_law_816 hs rfl (by omega) (by omega) ?_
  refine sw_aload_n (pc' := 818) rfl dL_law_817 rfl ?_
  refine sw_iload (pc' := 820) rfl dL_law_818 rfl ?_
  refine sw_iconst (pc' := 821) (v := 3) rfl dL_law_820 (by decide +kernel) ?_
  refine sw_iadd (pc' := 822) rfl dL_law_821 ?_
  rw [show (nI i) + 3 = nI (i + 3) from nI_add _ _]
  refine sw_iald (j := i + 3) (pc' := 823) rfl dL_law_822 hs rfl (by omega) (by omega) ?_
  refine sw_aload_n (pc' := 824) rfl dL_law_823 rfl ?_
  refine sw_S (M' := ML_replace) (d' := d - 1) (bc' := 60) (bs' := 400) (as := [_, _, _, _, _]) dL_law_824 w_606 ok_L_replace (L_replace hR hT hV hN hO hn (by omega) (Nat.le_refl _) (Nat.le_refl _)) (by omega) (Nat.le_of_ble_eq_true rfl) (by omega) (by omega) (fun E h' n' _ z => lpo_x z) (lpo_k (fun p pn pw ps pk pR pO pv pF => ?_))
  refine sw_istore (pc' := 829) (lv' := [(5, _), (4, _), (3, _), (2, _), (1, _), (0, _)]) rfl dL_law_827 (by decide +kernel) rfl ?_
  refine sw_aload_n (pc' := 830) rfl dL_law_829 rfl ?_
  refine sw_aload_n (pc' := 831) rfl dL_law_830 rfl ?_
  refine sw_iload (pc' := 833) rfl dL_law_831 rfl ?_
  refine sw_iconst (pc' := 834) (v := 1) rfl dL_law_833 (by decide +kernel) ?_
  refine sw_iadd (pc' := 835) rfl dL_law_834 ?_
  rw [show (nI i) + 1 = nI (i + 1) from nI_add _ _]
  refine sw_iald (j := i + 1) (pc' := 836) rfl dL_law_835 ((pF 0 (by omega) (by omega) (by omega)).trans hs) rfl (by omega) (by omega) ?_
  refine sw_aload_n (pc' := 837) rfl dL_law_836 rfl ?_
  refine sw_iload (pc' := 839) rfl dL_law_837 rfl ?_
  refine sw_iconst (pc' := 840) (v := 2) rfl dL_law_839 (by decide +kernel) ?_
  refine sw_iadd (pc' := 841) rfl dL_law_840 ?_
  rw [show (nI i) + 2 = nI (i + 2) from nI_add _ _]
  refine sw_iald (j := i + 2) (pc' := 842) rfl dL_law_841 ((pF 0 (by omega) (by omega) (by omega)).trans hs) rfl (by omega) (by omega) ?_
  refine sw_aload_n (pc' := 843) rfl dL_law_842 rfl ?_
  refine sw_iload (pc' := 845) rfl dL_law_843 rfl ?_
  refine sw_iconst (pc' := 846) (v := 3) rfl dL_law_845 (by decide +kernel) ?_
  refine sw_iadd (pc' := 847) rfl dL_law_846 ?_
  rw [show (nI i) + 3 = nI (i + 3) from nI_add _ _]
  refine sw_iald (j := i + 3) (pc' := 848) rfl dL_law_847 ((pF 0 (by omega) (by omega) (by omega)).trans hs) rfl (by omega) (by omega) ?_
  have hQ2 := hQ.fr (fun i a b => pF i (by omega) (by omega) (by omega))
  obtain ⟨ρ, τ, hM, hA⟩ := id hQ2
  refine sw_V (M' := MX5_replace) (d' := d - 1) (bc' := 1) (bs' := 12) (ci := 6) (as := [_, _, _]) dL_law_848 w_1294 ok_X5_replace (q_replace hQ2 (hV.iv hN) (by omega) (by omega) (Nat.le_refl _) (Nat.le_refl _)) hM.ob rfl (by omega) (Nat.le_of_ble_eq_true rfl) (by omega) (by omega) (fun E h' n' _ z => pmc_x z) (pmc_k ox_replace (fun u un ub uk uv uR uF => ?_))
  refine sw_istore (pc' := 853) (lv' := [(6, _), (5, _), (4, _), (3, _), (2, _), (1, _), (0, _)]) rfl dL_law_851 (by decide +kernel) rfl ?_
  refine sw_goto (tgt := 1944) dL_law_853 (by decide +kernel) ?_
  have J : LI L xs u un (opReplace σ (xs (i + 1)) (xs (i + 2)) (xs (i + 3))).2 (N + 12) := ⟨pR.frT (fun i hi => uF i (by omega) (by omega)), ⟨_, uR⟩, hT.fr (fun i hi => (uF i (by omega) (by omega)).trans (pF i (by omega) (by omega) (by omega))), iv_replace hV, ⟨_, _, (uF 158 (by omega) (by omega)).trans pO⟩, (uF 0 (by omega) (by omega)).trans ((pF 0 (by omega) (by omega) (by omega)).trans hs), by omega⟩
  exact SW.pick [2, 3, 4, 5, 6] rfl ((K u un _ (by omega) J).bud (by omega) (by omega))
theorem lc_14 {L : Nat} {xs : Nat → Int32} {h : AH} {n i N d bc bs : Nat} {σ : CS} {Post : ARes → AH → Nat → Prop} (hI : LI L xs h n σ N) (hN : N < 2 ^ 31) (hL : L ≤ 3072) (hi : i + 6 ≤ L) (hd : 20 ≤ d) (h1 : 380 ≤ bc) (h2 : 4500 ≤ bs) (K : ∀ (h' : AH) (n' : Nat) (σ' : CS), n ≤ n' → LI L xs h' n' σ' (N + 12) → SW SR0 ML_law d (bc - 380) (bs - 4500) 1944 [(4, .int (nI i)), (3, .ref 158), (2, .ref 135), (1, .ref 100), (0, .ref 0)] [] h' n' Post) : SW SR0 ML_law d bc bs 856 [(4, .int (nI i)), (3, .ref 158), (2, .ref 135), (1, .ref 100), (0, .ref 0)] [] h n Post := by
  obtain ⟨hR, ⟨th, hQ⟩, hT, hV, ⟨w, s, hO⟩, hs, hn⟩ := hI
  refine sw_aload_n (pc' := 857) rfl dL_law_856 rfl ?_
  refine sw_aload_n (pc' := 858) rfl dL_law_857 rfl ?_
  refine sw_iload (pc' := 860) rfl dL_law_858 rfl ?_
  refine sw_iconst (pc' := 861) (v := 1) rfl dL_law_860 (by decide +kernel) ?_
  refine sw_iadd (pc' := 862) rfl dL_law_861 ?_
  rw [show (nI i) + 1 = nI (i + 1) from nI_add _ _]
  refine sw_iald (j := i + 1) (pc' := 863) rfl dL_law_862 hs rfl (by omega) (by omega) ?_
  refine sw_aload_n (pc' := 864) rfl dL_law_863 rfl ?_
  refine sw_iload (pc' := 866) rfl dL_law_864 rfl ?_
  refine sw_iconst (pc' := 867) (v := 2) rfl dL_law_866 (by decide +kernel) ?_
  refine sw_iadd (pc' := 868) rfl dL_law_867 ?_
  rw [show (nI i) + 2 = nI (i + 2) from nI_add _ _]
  refine sw_iald (j := i + 2) (pc' := 869) rfl dL_law_868 hs rfl (by omega) (by omega) ?_
  refine sw_aload_n (pc' := 870) rfl dL_law_869 rfl ?_
  refine sw_iload (pc' := 872) rfl dL_law_870 rfl ?_
  refine sw_iconst (pc' := 873) (v := 3) rfl dL_law_872 (by decide +kernel) ?_
  refine sw_iadd (pc' := 874) rfl dL_law_873 ?_
  rw [show (nI i) + 3 = nI (i + 3) from nI_add _ _]
  refine sw_iald (j := i + 3) (pc' := 875) rfl dL_law_874 hs rfl (by omega) (by omega) ?_
  refine sw_aload_n (pc' := 876) rfl dL_law_875 rfl ?_
  refine sw_S (M' := ML_copies) (d' := d - 1) (bc' := 60) (bs' := 400) (as := [_, _, _, _, _]) dL_law_876 w_613 ok_L_copies (L_copies hR hT hV hN hO hn (by omega) (Nat.le_refl _) (Nat.le_refl _)) (by omega) (Nat.le_of_ble_eq_true rfl) (by omega) (by omega) (fun E h' n' _ z => lpo_x z) (lpo_k (fun p pn pw ps pk pR pO pv pF => ?_))
  refine sw_istore (pc' := 881) (lv' := [(5, _), (4, _), (3, _), (2, _), (1, _), (0, _)]) rfl dL_law_879 (by decide +kernel) rfl ?_
  refine sw_aload_n (pc' := 882) rfl dL_law_881 rfl ?_
  refine sw_aload_n (pc' := 883) rfl dL_law_882 rfl ?_
  refine sw_iload (pc' := 885) rfl dL_law_883 rfl ?_
  refine sw_iconst (pc' := 886) (v := 1) rfl dL_law_885 (by decide +kernel) ?_
  refine sw_iadd (pc' := 887) rfl dL_law_886 ?_
  rw [show (nI i) + 1 = nI (i + 1) from nI_add _ _]
  refine sw_iald (j := i + 1) (pc' := 888) rfl dL_law_887 ((pF 0 (by omega) (by omega) (by omega)).trans hs) rfl (by omega) (by omega) ?_
  refine sw_aload_n (pc' := 889) rfl dL_law_888 rfl ?_
  refine sw_iload (pc' := 891) rfl dL_law_889 rfl ?_
  refine sw_iconst (pc' := 892) (v := 2) rfl dL_law_891 (by decide +kernel) ?_
  refine sw_iadd (pc' := 893) rfl dL_law_892 ?_
  rw [show (nI i) + 2 = nI (i + 2) from nI_add _ _]
  refine sw_iald (j := i + 2) (pc' := 894) rfl dL_law_893 ((pF 0 (by omega) (by omega) (by omega)).trans hs) rfl (by omega) (by omega) ?_
  refine sw_aload_n (pc' := 895) rfl dL_law_894 rfl ?_
  refine sw_iload (pc' := 897) rfl dL_law_895 rfl ?_
  refine sw_iconst (pc' := 898) (v := 3) rfl dL_law_897 (by decide +kernel) ?_
  refine sw_iadd (pc' := 899) rfl dL_law_898 ?_
  rw [show (nI i) + 3 = nI (i + 3) from nI_add _ _]
  refine sw_iald (j := i + 3) (pc' := 900) rfl dL_law_899 ((pF 0 (by omega) (by omega) (by omega)).trans hs) rfl (by omega) (by omega) ?_
  have hQ2 := hQ.fr (fun i a b => pF i (by omega) (by omega) (by omega))
  obtain ⟨ρ, τ, hM, hA⟩ := id hQ2
  refine sw_V (M' := MX5_copies) (d' := d - 1) (bc' := 1) (bs' := 12) (ci := 6) (as := [_, _, _]) dL_law_900 w_1298 ok_X5_copies (q_copies hQ2 (hV.iv hN) (by omega) (by omega) (Nat.le_refl _) (Nat.le_refl _)) hM.ob rfl (by omega) (Nat.le_of_ble_eq_true rfl) (by omega) (by omega) (fun E h' n' _ z => pmc_x z) (pmc_k ox_copies (fun u un ub uk uv uR uF => ?_))
  refine sw_istore (pc' := 905) (lv' := [(6, _), (5, _), (4, _), (3, _), (2, _), (1, _), (0, _)]) rfl dL_law_903 (by decide +kernel) rfl ?_
  refine sw_goto (tgt := 1944) dL_law_905 (by decide +kernel) ?_
  have J : LI L xs u un (opCopies σ (xs (i + 1)) (xs (i + 2)) (xs (i + 3))).2 (N + 12) := ⟨pR.frT (fun i hi => uF i (by omega) (by omega)), ⟨_, uR⟩, hT.fr (fun i hi => (uF i (by omega) (by omega)).trans (pF i (by omega) (by omega) (by omega))), iv_copies hV, ⟨_, _, (uF 158 (by omega) (by omega)).trans pO⟩, (uF 0 (by omega) (by omega)).trans ((pF 0 (by omega) (by omega) (by omega)).trans hs), by omega⟩
  exact SW.pick [2, 3, 4, 5, 6] rfl ((K u un _ (by omega) J).bud (by omega) (by omega))
theorem lc_15 {L : Nat} {xs : Nat → Int32} {h : AH} {n i N d bc bs : Nat} {σ : CS} {Post : ARes → AH → Nat → Prop} (hI : LI L xs h n σ N) (hN : N < 2 ^ 31) (hL : L ≤ 3072) (hi : i + 6 ≤ L) (hd : 20 ≤ d) (h1 : 380 ≤ bc) (h2 : 4500 ≤ bs) (K : ∀ (h' : AH) (n' : Nat) (σ' : CS), n ≤ n' → LI L xs h' n' σ' (N + 12) → SW SR0 ML_law d (bc - 380) (bs - 4500) 1944 [(4, .int (nI i)), (3, .ref 158), (2, .ref 135), (1, .ref 100), (0, .ref 0)] [] h' n' Post) : SW SR0 ML_law d bc bs 908 [(4, .int (nI i)), (3, .ref 158), (2, .ref 135), (1, .ref 100), (0, .ref 0)] [] h n Post := by
  obtain ⟨hR, ⟨th, hQ⟩, hT, hV, ⟨w, s, hO⟩, hs, hn⟩ := hI
  refine sw_aload_n (pc' := 909) rfl dL_law_908 rfl ?_
  refine sw_aload_n (pc' := 910) rfl dL_law_909 rfl ?_
  refine sw_iload (pc' := 912) rfl dL_law_910 rfl ?_
  refine sw_iconst (pc' := 913) (v := 1) rfl dL_law_912 (by decide +kernel) ?_
  refine sw_iadd (pc' := 914) rfl dL_law_913 ?_
  rw [show (nI i) + 1 = nI (i + 1) from nI_add _ _]
  refine sw_iald (j := i + 1) (pc' := 915) rfl dL_law_914 hs rfl (by omega) (by omega) ?_
  refine sw_aload_n (pc' := 916) rfl dL_law_915 rfl ?_
  refine sw_iload (pc' := 918) rfl dL_law_916 rfl ?_
  refine sw_iconst (pc' := 919) (v := 2) rfl dL_law_918 (by decide +kernel) ?_
  refine sw_iadd (pc' := 920) rfl dL_law_919 ?_
  rw [show (nI i) + 2 = nI (i + 2) from nI_add _ _]
  refine sw_iald (j := i + 2) (pc' := 921) rfl dL_law_920 hs rfl (by omega) (by omega) ?_
  refine sw_aload_n (pc' := 922) rfl dL_law_921 rfl ?_
  refine sw_iload (pc' := 924) rfl dL_law_922 rfl ?_
  refine sw_iconst (pc' := 925) (v := 3) rfl dL_law_924 (by decide +kernel) ?_
  refine sw_iadd (pc' := 926) rfl dL_law_925 ?_
  rw [show (nI i) + 3 = nI (i + 3) from nI_add _ _]
  refine sw_iald (j := i + 3) (pc' := 927) rfl dL_law_926 hs rfl (by omega) (by omega) ?_
  refine sw_aload_n (pc' := 928) rfl dL_law_927 rfl ?_
  refine sw_S (M' := ML_walk) (d' := d - 1) (bc' := 60) (bs' := 400) (as := [_, _, _, _, _]) dL_law_928 w_624 ok_L_walk (L_walk hR hT hV hN hO hn (by omega) (Nat.le_refl _) (Nat.le_refl _)) (by omega) (Nat.le_of_ble_eq_true rfl) (by omega) (by omega) (fun E h' n' _ z => lpo_x z) (lpo_k (fun p pn pw ps pk pR pO pv pF => ?_))
  refine sw_istore (pc' := 933) (lv' := [(5, _), (4, _), (3, _), (2, _), (1, _), (0, _)]) rfl dL_law_931 (by decide +kernel) rfl ?_
  refine sw_aload_n (pc' := 934) rfl dL_law_933 rfl ?_
  refine sw_aload_n (pc' := 935) rfl dL_law_934 rfl ?_
  refine sw_iload (pc' := 937) rfl dL_law_935 rfl ?_
  refine sw_iconst (pc' := 938) (v := 1) rfl dL_law_937 (by decide +kernel) ?_
  refine sw_iadd (pc' := 939) rfl dL_law_938 ?_
  rw [show (nI i) + 1 = nI (i + 1) from nI_add _ _]
  refine sw_iald (j := i + 1) (pc' := 940) rfl dL_law_939 ((pF 0 (by omega) (by omega) (by omega)).trans hs) rfl (by omega) (by omega) ?_
  refine sw_aload_n (pc' := 941) rfl dL_law_940 rfl ?_
  refine sw_iload (pc' := 943) rfl dL_law_941 rfl ?_
  refine sw_iconst (pc' := 944) (v := 2) rfl dL_law_943 (by decide +kernel) ?_
  refine sw_iadd (pc' := 945) rfl dL_law_944 ?_
  rw [show (nI i) + 2 = nI (i + 2) from nI_add _ _]
  refine sw_iald (j := i + 2) (pc' := 946) rfl dL_law_945 ((pF 0 (by omega) (by omega) (by omega)).trans hs) rfl (by omega) (by omega) ?_
  refine sw_aload_n (pc' := 947) rfl dL_law_946 rfl ?_
  refine sw_iload (pc' := 949) rfl dL_law_947 rfl ?_
  refine sw_iconst (pc' := 950) (v := 3) rfl dL_law_949 (by decide +kernel) ?_
  refine sw_iadd (pc' := 951) rfl dL_law_950 ?_
  rw [show (nI i) + 3 = nI (i + 3) from nI_add _ _]
  refine sw_iald (j := i + 3) (pc' := 952) rfl dL_law_951 ((pF 0 (by omega) (by omega) (by omega)).trans hs) rfl (by omega) (by omega) ?_
  have hQ2 := hQ.fr (fun i a b => pF i (by omega) (by omega) (by omega))
  obtain ⟨ρ, τ, hM, hA⟩ := id hQ2
  refine sw_V (M' := MX5_walk) (d' := d - 1) (bc' := 1) (bs' := 12) (ci := 6) (as := [_, _, _]) dL_law_952 w_1302 ok_X5_walk (q_walk hQ2 (hV.iv hN) (by omega) (by omega) (Nat.le_refl _) (Nat.le_refl _)) hM.ob rfl (by omega) (Nat.le_of_ble_eq_true rfl) (by omega) (by omega) (fun E h' n' _ z => pmc_x z) (pmc_k ox_walk (fun u un ub uk uv uR uF => ?_))
  refine sw_istore (pc' := 957) (lv' := [(6, _), (5, _), (4, _), (3, _), (2, _), (1, _), (0, _)]) rfl dL_law_955 (by decide +kernel) rfl ?_
  refine sw_goto (tgt := 1944) dL_law_957 (by decide +kernel) ?_
  have J : LI L xs u un (opWalk σ (xs (i + 1)) (xs (i + 2)) (xs (i + 3))).2 (N + 12) := ⟨pR.frT (fun i hi => uF i (by omega) (by omega)), ⟨_, uR⟩, hT.fr (fun i hi => (uF i (by omega) (by omega)).trans (pF i (by omega) (by omega) (by omega))), iv_walk hV, ⟨_, _, (uF 158 (by omega) (by omega)).trans pO⟩, (uF 0 (by omega) (by omega)).trans ((pF 0 (by omega) (by omega) (by omega)).trans hs), by omega⟩
  exact SW.pick [2, 3, 4, 5, 6] rfl ((K u un _ (by omega) J).bud (by omega) (by omega))
theorem lc_16 {L : Nat} {xs : Nat → Int32} {h : AH} {n i N d bc bs : Nat} {σ : CS} {Post : ARes → AH → Nat → Prop} (hI : LI L xs h n σ N) (hN : N < 2 ^ 31) (hL : L ≤ 3072) (hi : i + 6 ≤ L) (hd : 20 ≤ d) (h1 : 380 ≤ bc) (h2 : 4500 ≤ bs) (K : ∀ (h' : AH) (n' : Nat) (σ' : CS), n ≤ n' → LI L xs h' n' σ' (N + 12) → SW SR0 ML_law d (bc - 380) (bs - 4500) 1944 [(4, .int (nI i)), (3, .ref 158), (2, .ref 135), (1, .ref 100), (0, .ref 0)] [] h' n' Post) : SW SR0 ML_law d bc bs 960 [(4, .int (nI i)), (3, .ref 158), (2, .ref 135), (1, .ref 100), (0, .ref 0)] [] h n Post := by
  obtain ⟨hR, ⟨th, hQ⟩, hT, hV, ⟨w, s, hO⟩, hs, hn⟩ := hI
  refine sw_aload_n (pc' := 961) rfl dL_law_960 rfl ?_
  refine sw_aload_n (pc' := 962) rfl dL_law_961 rfl ?_
  refine sw_iload (pc' := 964) rfl dL_law_962 rfl ?_
  refine sw_iconst (pc' := 965) (v := 1) rfl dL_law_964 (by decide +kernel) ?_
  refine sw_iadd (pc' := 966) rfl dL_law_965 ?_
  rw [show (nI i) + 1 = nI (i + 1) from nI_add _ _]
  refine sw_iald (j := i + 1) (pc' := 967) rfl dL_law_966 hs rfl (by omega) (by omega) ?_
  refine sw_aload_n (pc' := 968) rfl dL_law_967 rfl ?_
  refine sw_S (M' := ML_next) (d' := d - 1) (bc' := 60) (bs' := 400) (as := [_, _, _]) dL_law_968 w_633 ok_L_next (L_next hR hT hV hN hO hn (by omega) (Nat.le_refl _) (Nat.le_refl _)) (by omega) (Nat.le_of_ble_eq_true rfl) (by omega) (by omega) (fun E h' n' _ z => lpo_x z) (lpo_k (fun p pn pw ps pk pR pO pv pF => ?_))
  refine sw_istore (pc' := 973) (lv' := [(5, _), (4, _), (3, _), (2, _), (1, _), (0, _)]) rfl dL_law_971 (by decide +kernel) rfl ?_
  refine sw_aload_n (pc' := 974) rfl dL_law_973 rfl ?_
  refine sw_aload_n (pc' := 975) rfl dL_law_974 rfl ?_
  refine sw_iload (pc' := 977) rfl dL_law_975 rfl ?_
  refine sw_iconst (pc' := 978) (v := 1) rfl dL_law_977 (by decide +kernel) ?_
  refine sw_iadd (pc' := 979) rfl dL_law_978 ?_
  rw [show (nI i) + 1 = nI (i + 1) from nI_add _ _]
  refine sw_iald (j := i + 1) (pc' := 980) rfl dL_law_979 ((pF 0 (by omega) (by omega) (by omega)).trans hs) rfl (by omega) (by omega) ?_
  have hQ2 := hQ.fr (fun i a b => pF i (by omega) (by omega) (by omega))
  obtain ⟨ρ, τ, hM, hA⟩ := id hQ2
  refine sw_V (M' := MX5_next) (d' := d - 1) (bc' := 1) (bs' := 12) (ci := 6) (as := [_]) dL_law_980 w_1309 ok_X5_next (q_next hQ2 (hV.iv hN) (by omega) (by omega) (Nat.le_refl _) (Nat.le_refl _)) hM.ob rfl (by omega) (Nat.le_of_ble_eq_true rfl) (by omega) (by omega) (fun E h' n' _ z => pmc_x z) (pmc_k ox_next (fun u un ub uk uv uR uF => ?_))
  refine sw_istore (pc' := 985) (lv' := [(6, _), (5, _), (4, _), (3, _), (2, _), (1, _), (0, _)]) rfl dL_law_983 (by decide +kernel) rfl ?_
  refine sw_goto (tgt := 1944) dL_law_985 (by decide +kernel) ?_
  have J : LI L xs u un (opNext σ (xs (i + 1))).2 (N + 12) := ⟨pR.frT (fun i hi => uF i (by omega) (by omega)), ⟨_, uR⟩, hT.fr (fun i hi => (uF i (by omega) (by omega)).trans (pF i (by omega) (by omega) (by omega))), iv_next hV, ⟨_, _, (uF 158 (by omega) (by omega)).trans pO⟩, (uF 0 (by omega) (by omega)).trans ((pF 0 (by omega) (by omega) (by omega)).trans hs), by omega⟩
  exact SW.pick [2, 3, 4, 5, 6] rfl ((K u un _ (by omega) J).bud (by omega) (by omega))
theorem lc_17 {L : Nat} {xs : Nat → Int32} {h : AH} {n i N d bc bs : Nat} {σ : CS} {Post : ARes → AH → Nat → Prop} (hI : LI L xs h n σ N) (hN : N < 2 ^ 31) (hL : L ≤ 3072) (hi : i + 6 ≤ L) (hd : 20 ≤ d) (h1 : 380 ≤ bc) (h2 : 4500 ≤ bs) (K : ∀ (h' : AH) (n' : Nat) (σ' : CS), n ≤ n' → LI L xs h' n' σ' (N + 12) → SW SR0 ML_law d (bc - 380) (bs - 4500) 1944 [(4, .int (nI i)), (3, .ref 158), (2, .ref 135), (1, .ref 100), (0, .ref 0)] [] h' n' Post) : SW SR0 ML_law d bc bs 988 [(4, .int (nI i)), (3, .ref 158), (2, .ref 135), (1, .ref 100), (0, .ref 0)] [] h n Post := by
  obtain ⟨hR, ⟨th, hQ⟩, hT, hV, ⟨w, s, hO⟩, hs, hn⟩ := hI
  refine sw_aload_n (pc' := 989) rfl dL_law_988 rfl ?_
  refine sw_aload_n (pc' := 990) rfl dL_law_989 rfl ?_
  refine sw_iload (pc' := 992) rfl dL_law_990 rfl ?_
  refine sw_iconst (pc' := 993) (v := 1) rfl dL_law_992 (by decide +kernel) ?_
  refine sw_iadd (pc' := 994) rfl dL_law_993 ?_
  rw [show (nI i) + 1 = nI (i + 1) from nI_add _ _]
  refine sw_iald (j := i + 1) (pc' := 995) rfl dL_law_994 hs rfl (by omega) (by omega) ?_
  refine sw_aload_n (pc' := 996) rfl dL_law_995 rfl ?_
  refine sw_S (M' := ML_more) (d' := d - 1) (bc' := 60) (bs' := 400) (as := [_, _, _]) dL_law_996 w_644 ok_L_more (L_more hR hT hV hN hO hn (by omega) (Nat.le_refl _) (Nat.le_refl _)) (by omega) (Nat.le_of_ble_eq_true rfl) (by omega) (by omega) (fun E h' n' _ z => lpo_x z) (lpo_k (fun p pn pw ps pk pR pO pv pF => ?_))
  refine sw_istore (pc' := 1001) (lv' := [(5, _), (4, _), (3, _), (2, _), (1, _), (0, _)]) rfl dL_law_999 (by decide +kernel) rfl ?_
  refine sw_aload_n (pc' := 1002) rfl dL_law_1001 rfl ?_
  refine sw_aload_n (pc' := 1003) rfl dL_law_1002 rfl ?_
  refine sw_iload (pc' := 1005) rfl dL_law_1003 rfl ?_
  refine sw_iconst (pc' := 1006) (v := 1) rfl dL_law_1005 (by decide +kernel) ?_
  refine sw_iadd (pc' := 1007) rfl dL_law_1006 ?_
  rw [show (nI i) + 1 = nI (i + 1) from nI_add _ _]
  refine sw_iald (j := i + 1) (pc' := 1008) rfl dL_law_1007 ((pF 0 (by omega) (by omega) (by omega)).trans hs) rfl (by omega) (by omega) ?_
  have hQ2 := hQ.fr (fun i a b => pF i (by omega) (by omega) (by omega))
  obtain ⟨ρ, τ, hM, hA⟩ := id hQ2
  refine sw_V (M' := MX5_more) (d' := d - 1) (bc' := 1) (bs' := 12) (ci := 6) (as := [_]) dL_law_1008 w_1329 ok_X5_more (q_more hQ2 (hV.iv hN) (by omega) (by omega) (Nat.le_refl _) (Nat.le_refl _)) hM.ob rfl (by omega) (Nat.le_of_ble_eq_true rfl) (by omega) (by omega) (fun E h' n' _ z => pmc_x z) (pmc_k ox_more (fun u un ub uk uv uR uF => ?_))
  refine sw_istore (pc' := 1013) (lv' := [(6, _), (5, _), (4, _), (3, _), (2, _), (1, _), (0, _)]) rfl dL_law_1011 (by decide +kernel) rfl ?_
  refine sw_goto (tgt := 1944) dL_law_1013 (by decide +kernel) ?_
  have J : LI L xs u un (opMore σ (xs (i + 1))).2 (N + 12) := ⟨pR.frT (fun i hi => uF i (by omega) (by omega)), ⟨_, uR⟩, hT.fr (fun i hi => (uF i (by omega) (by omega)).trans (pF i (by omega) (by omega) (by omega))), iv_more hV, ⟨_, _, (uF 158 (by omega) (by omega)).trans pO⟩, (uF 0 (by omega) (by omega)).trans ((pF 0 (by omega) (by omega) (by omega)).trans hs), by omega⟩
  exact SW.pick [2, 3, 4, 5, 6] rfl ((K u un _ (by omega) J).bud (by omega) (by omega))
theorem lc_18 {L : Nat} {xs : Nat → Int32} {h : AH} {n i N d bc bs : Nat} {σ : CS} {Post : ARes → AH → Nat → Prop} (hI : LI L xs h n σ N) (hN : N < 2 ^ 31) (hL : L ≤ 3072) (hi : i + 6 ≤ L) (hd : 20 ≤ d) (h1 : 380 ≤ bc) (h2 : 4500 ≤ bs) (K : ∀ (h' : AH) (n' : Nat) (σ' : CS), n ≤ n' → LI L xs h' n' σ' (N + 12) → SW SR0 ML_law d (bc - 380) (bs - 4500) 1944 [(4, .int (nI i)), (3, .ref 158), (2, .ref 135), (1, .ref 100), (0, .ref 0)] [] h' n' Post) : SW SR0 ML_law d bc bs 1016 [(4, .int (nI i)), (3, .ref 158), (2, .ref 135), (1, .ref 100), (0, .ref 0)] [] h n Post := by
  obtain ⟨hR, ⟨th, hQ⟩, hT, hV, ⟨w, s, hO⟩, hs, hn⟩ := hI
  refine sw_aload_n (pc' := 1017) rfl dL_law_1016 rfl ?_
  refine sw_aload_n (pc' := 1018) rfl dL_law_1017 rfl ?_
  refine sw_iload (pc' := 1020) rfl dL_law_1018 rfl ?_
  refine sw_iconst (pc' := 1021) (v := 1) rfl dL_law_1020 (by decide +kernel) ?_
  refine sw_iadd (pc' := 1022) rfl dL_law_1021 ?_
  rw [show (nI i) + 1 = nI (i + 1) from nI_add _ _]
  refine sw_iald (j := i + 1) (pc' := 1023) rfl dL_law_1022 hs rfl (by omega) (by omega) ?_
  refine sw_aload_n (pc' := 1024) rfl dL_law_1023 rfl ?_
  refine sw_S (M' := ML_takeOut) (d' := d - 1) (bc' := 60) (bs' := 400) (as := [_, _, _]) dL_law_1024 w_651 ok_L_takeOut (L_takeOut hR hT hV hN hO hn (by omega) (Nat.le_refl _) (Nat.le_refl _)) (by omega) (Nat.le_of_ble_eq_true rfl) (by omega) (by omega) (fun E h' n' _ z => lpo_x z) (lpo_k (fun p pn pw ps pk pR pO pv pF => ?_))
  refine sw_istore (pc' := 1029) (lv' := [(5, _), (4, _), (3, _), (2, _), (1, _), (0, _)]) rfl dL_law_1027 (by decide +kernel) rfl ?_
  refine sw_aload_n (pc' := 1030) rfl dL_law_1029 rfl ?_
  refine sw_aload_n (pc' := 1031) rfl dL_law_1030 rfl ?_
  refine sw_iload (pc' := 1033) rfl dL_law_1031 rfl ?_
  refine sw_iconst (pc' := 1034) (v := 1) rfl dL_law_1033 (by decide +kernel) ?_
  refine sw_iadd (pc' := 1035) rfl dL_law_1034 ?_
  rw [show (nI i) + 1 = nI (i + 1) from nI_add _ _]
  refine sw_iald (j := i + 1) (pc' := 1036) rfl dL_law_1035 ((pF 0 (by omega) (by omega) (by omega)).trans hs) rfl (by omega) (by omega) ?_
  have hQ2 := hQ.fr (fun i a b => pF i (by omega) (by omega) (by omega))
  obtain ⟨ρ, τ, hM, hA⟩ := id hQ2
  refine sw_V (M' := MX5_takeOut) (d' := d - 1) (bc' := 1) (bs' := 12) (ci := 6) (as := [_]) dL_law_1036 w_1333 ok_X5_takeOut (q_takeOut hQ2 (hV.iv hN) (by omega) (by omega) (Nat.le_refl _) (Nat.le_refl _)) hM.ob rfl (by omega) (Nat.le_of_ble_eq_true rfl) (by omega) (by omega) (fun E h' n' _ z => pmc_x z) (pmc_k ox_takeOut (fun u un ub uk uv uR uF => ?_))
  refine sw_istore (pc' := 1041) (lv' := [(6, _), (5, _), (4, _), (3, _), (2, _), (1, _), (0, _)]) rfl dL_law_1039 (by decide +kernel) rfl ?_
  refine sw_goto (tgt := 1944) dL_law_1041 (by decide +kernel) ?_
  have J : LI L xs u un (opTakeOut σ (xs (i + 1))).2 (N + 12) := ⟨pR.frT (fun i hi => uF i (by omega) (by omega)), ⟨_, uR⟩, hT.fr (fun i hi => (uF i (by omega) (by omega)).trans (pF i (by omega) (by omega) (by omega))), iv_takeOut hV hN, ⟨_, _, (uF 158 (by omega) (by omega)).trans pO⟩, (uF 0 (by omega) (by omega)).trans ((pF 0 (by omega) (by omega) (by omega)).trans hs), by omega⟩
  exact SW.pick [2, 3, 4, 5, 6] rfl ((K u un _ (by omega) J).bud (by omega) (by omega))
theorem lc_19 {L : Nat} {xs : Nat → Int32} {h : AH} {n i N d bc bs : Nat} {σ : CS} {Post : ARes → AH → Nat → Prop} (hI : LI L xs h n σ N) (hN : N < 2 ^ 31) (hL : L ≤ 3072) (hi : i + 6 ≤ L) (hd : 20 ≤ d) (h1 : 380 ≤ bc) (h2 : 4500 ≤ bs) (K : ∀ (h' : AH) (n' : Nat) (σ' : CS), n ≤ n' → LI L xs h' n' σ' (N + 12) → SW SR0 ML_law d (bc - 380) (bs - 4500) 1944 [(4, .int (nI i)), (3, .ref 158), (2, .ref 135), (1, .ref 100), (0, .ref 0)] [] h' n' Post) : SW SR0 ML_law d bc bs 1044 [(4, .int (nI i)), (3, .ref 158), (2, .ref 135), (1, .ref 100), (0, .ref 0)] [] h n Post := by
  obtain ⟨hR, ⟨th, hQ⟩, hT, hV, ⟨w, s, hO⟩, hs, hn⟩ := hI
  refine sw_aload_n (pc' := 1045) rfl dL_law_1044 rfl ?_
  refine sw_aload_n (pc' := 1046) rfl dL_law_1045 rfl ?_
  refine sw_iload (pc' := 1048) rfl dL_law_1046 rfl ?_
  refine sw_iconst (pc' := 1049) (v := 1) rfl dL_law_1048 (by decide +kernel) ?_
  refine sw_iadd (pc' := 1050) rfl dL_law_1049 ?_
  rw [show (nI i) + 1 = nI (i + 1) from nI_add _ _]
  refine sw_iald (j := i + 1) (pc' := 1051) rfl dL_law_1050 hs rfl (by omega) (by omega) ?_
  refine sw_aload_n (pc' := 1052) rfl dL_law_1051 rfl ?_
  refine sw_S (M' := ML_rest) (d' := d - 1) (bc' := 60) (bs' := 400) (as := [_, _, _]) dL_law_1052 w_666 ok_L_rest (L_rest hR hT hV hN hO hn (by omega) (Nat.le_refl _) (Nat.le_refl _)) (by omega) (Nat.le_of_ble_eq_true rfl) (by omega) (by omega) (fun E h' n' _ z => lpo_x z) (lpo_k (fun p pn pw ps pk pR pO pv pF => ?_))
  refine sw_istore (pc' := 1057) (lv' := [(5, _), (4, _), (3, _), (2, _), (1, _), (0, _)]) rfl dL_law_1055 (by decide +kernel) rfl ?_
  refine sw_aload_n (pc' := 1058) rfl dL_law_1057 rfl ?_
  refine sw_aload_n (pc' := 1059) rfl dL_law_1058 rfl ?_
  refine sw_iload (pc' := 1061) rfl dL_law_1059 rfl ?_
  refine sw_iconst (pc' := 1062) (v := 1) rfl dL_law_1061 (by decide +kernel) ?_
  refine sw_iadd (pc' := 1063) rfl dL_law_1062 ?_
  rw [show (nI i) + 1 = nI (i + 1) from nI_add _ _]
  refine sw_iald (j := i + 1) (pc' := 1064) rfl dL_law_1063 ((pF 0 (by omega) (by omega) (by omega)).trans hs) rfl (by omega) (by omega) ?_
  have hQ2 := hQ.fr (fun i a b => pF i (by omega) (by omega) (by omega))
  obtain ⟨ρ, τ, hM, hA⟩ := id hQ2
  have pT := hT.fr (fun i hi => pF i (by omega) (by omega) (by omega))
  refine sw_V (M' := MX5_rest) (d' := d - 1) (bc' := 200) (bs' := 2800) (ci := 6) (as := [_]) dL_law_1064 w_1337 ok_X5_rest (q_rest hQ2 (hV.iv hN) (by omega) (by omega) (Nat.le_refl _) (Nat.le_refl _) pT) hM.ob rfl (by omega) (Nat.le_of_ble_eq_true rfl) (by omega) (by omega) (fun E h' n' _ z => ptc_x z) (ptc_k (fun u un ux uP => ?_))
  obtain ⟨uk, -, uR, uF⟩ := uP
  refine sw_astore (pc' := 1069) (lv' := [(6, _), (5, _), (4, _), (3, _), (2, _), (1, _), (0, _)]) rfl dL_law_1067 (by decide +kernel) rfl ?_
  refine sw_goto (tgt := 1944) dL_law_1069 (by decide +kernel) ?_
  have J : LI L xs u un (opRest σ (xs (i + 1))).2 (N + 12) := ⟨pR.frT (fun i hi => uF i (by omega) (by omega)), ⟨_, uR⟩, hT.fr (fun i hi => (uF i (by omega) (by omega)).trans (pF i (by omega) (by omega) (by omega))), iv_rest hV, ⟨_, _, (uF 158 (by omega) (by omega)).trans pO⟩, (uF 0 (by omega) (by omega)).trans ((pF 0 (by omega) (by omega) (by omega)).trans hs), by omega⟩
  exact SW.pick [2, 3, 4, 5, 6] rfl ((K u un _ (by omega) J).bud (by omega) (by omega))
theorem lc_20 {L : Nat} {xs : Nat → Int32} {h : AH} {n i N d bc bs : Nat} {σ : CS} {Post : ARes → AH → Nat → Prop} (hI : LI L xs h n σ N) (hN : N < 2 ^ 31) (hL : L ≤ 3072) (hi : i + 6 ≤ L) (hd : 20 ≤ d) (h1 : 380 ≤ bc) (h2 : 4500 ≤ bs) (K : ∀ (h' : AH) (n' : Nat) (σ' : CS), n ≤ n' → LI L xs h' n' σ' (N + 12) → SW SR0 ML_law d (bc - 380) (bs - 4500) 1944 [(4, .int (nI i)), (3, .ref 158), (2, .ref 135), (1, .ref 100), (0, .ref 0)] [] h' n' Post) : SW SR0 ML_law d bc bs 1072 [(4, .int (nI i)), (3, .ref 158), (2, .ref 135), (1, .ref 100), (0, .ref 0)] [] h n Post := by
  obtain ⟨hR, ⟨th, hQ⟩, hT, hV, ⟨w, s, hO⟩, hs, hn⟩ := hI
  refine sw_aload_n (pc' := 1073) rfl dL_law_1072 rfl ?_
  refine sw_aload_n (pc' := 1074) rfl dL_law_1073 rfl ?_
  refine sw_iload (pc' := 1076) rfl dL_law_1074 rfl ?_
  refine sw_iconst (pc' := 1077) (v := 1) rfl dL_law_1076 (by decide +kernel) ?_
  refine sw_iadd (pc' := 1078) rfl dL_law_1077 ?_
  rw [show (nI i) + 1 = nI (i + 1) from nI_add _ _]
  refine sw_iald (j := i + 1) (pc' := 1079) rfl dL_law_1078 hs rfl (by omega) (by omega) ?_
  refine sw_aload_n (pc' := 1080) rfl dL_law_1079 rfl ?_
  refine sw_iload (pc' := 1082) rfl dL_law_1080 rfl ?_
  refine sw_iconst (pc' := 1083) (v := 2) rfl dL_law_1082 (by decide +kernel) ?_
  refine sw_iadd (pc' := 1084) rfl dL_law_1083 ?_
  rw [show (nI i) + 2 = nI (i + 2) from nI_add _ _]
  refine sw_iald (j := i + 2) (pc' := 1085) rfl dL_law_1084 hs rfl (by omega) (by omega) ?_
  refine sw_aload_n (pc' := 1086) rfl dL_law_1085 rfl ?_
  refine sw_S (M' := ML_keepRest) (d' := d - 1) (bc' := 60) (bs' := 400) (as := [_, _, _, _]) dL_law_1086 w_952 ok_L_keepRest (L_keepRest hR hT hV hN hO hn (by omega) (Nat.le_refl _) (Nat.le_refl _)) (by omega) (Nat.le_of_ble_eq_true rfl) (by omega) (by omega) (fun E h' n' _ z => lpo_x z) (lpo_k (fun p pn pw ps pk pR pO pv pF => ?_))
  refine sw_istore (pc' := 1091) (lv' := [(5, _), (4, _), (3, _), (2, _), (1, _), (0, _)]) rfl dL_law_1089 (by decide +kernel) rfl ?_
  refine sw_aload_n (pc' := 1092) rfl dL_law_1091 rfl ?_
  refine sw_aload_n (pc' := 1093) rfl dL_law_1092 rfl ?_
  refine sw_iload (pc' := 1095) rfl dL_law_1093 rfl ?_
  refine sw_iconst (pc' := 1096) (v := 1) rfl dL_law_1095 (by decide +kernel) ?_
  refine sw_iadd (pc' := 1097) rfl dL_law_1096 ?_
  rw [show (nI i) + 1 = nI (i + 1) from nI_add _ _]
  refine sw_iald (j := i + 1) (pc' := 1098) rfl dL_law_1097 ((pF 0 (by omega) (by omega) (by omega)).trans hs) rfl (by omega) (by omega) ?_
  refine sw_aload_n (pc' := 1099) rfl dL_law_1098 rfl ?_
  refine sw_iload (pc' := 1101) rfl dL_law_1099 rfl ?_
  refine sw_iconst (pc' := 1102) (v := 2) rfl dL_law_1101 (by decide +kernel) ?_
  refine sw_iadd (pc' := 1103) rfl dL_law_1102 ?_
  rw [show (nI i) + 2 = nI (i + 2) from nI_add _ _]
  refine sw_iald (j := i + 2) (pc' := 1104) rfl dL_law_1103 ((pF 0 (by omega) (by omega) (by omega)).trans hs) rfl (by omega) (by omega) ?_
  have hQ2 := hQ.fr (fun i a b => pF i (by omega) (by omega) (by omega))
  obtain ⟨ρ, τ, hM, hA⟩ := id hQ2
  refine sw_V (M' := MX5_keepRest) (d' := d - 1) (bc' := 1) (bs' := 12) (ci := 6) (as := [_, _]) dL_law_1104 w_1364 ok_X5_keepRest (q_keepRest hQ2 (hV.iv hN) (by omega) (by omega) (Nat.le_refl _) (Nat.le_refl _)) hM.ob rfl (by omega) (Nat.le_of_ble_eq_true rfl) (by omega) (by omega) (fun E h' n' _ z => pmc_x z) (pmc_k ox_keepRest (fun u un ub uk uv uR uF => ?_))
  refine sw_istore (pc' := 1109) (lv' := [(6, _), (5, _), (4, _), (3, _), (2, _), (1, _), (0, _)]) rfl dL_law_1107 (by decide +kernel) rfl ?_
  refine sw_goto (tgt := 1944) dL_law_1109 (by decide +kernel) ?_
  have J : LI L xs u un (opKeepRest σ (xs (i + 1)) (xs (i + 2))).2 (N + 12) := ⟨pR.frT (fun i hi => uF i (by omega) (by omega)), ⟨_, uR⟩, hT.fr (fun i hi => (uF i (by omega) (by omega)).trans (pF i (by omega) (by omega) (by omega))), iv_keepRest hV, ⟨_, _, (uF 158 (by omega) (by omega)).trans pO⟩, (uF 0 (by omega) (by omega)).trans ((pF 0 (by omega) (by omega) (by omega)).trans hs), by omega⟩
  exact SW.pick [2, 3, 4, 5, 6] rfl ((K u un _ (by omega) J).bud (by omega) (by omega))
theorem lc_21 {L : Nat} {xs : Nat → Int32} {h : AH} {n i N d bc bs : Nat} {σ : CS} {Post : ARes → AH → Nat → Prop} (hI : LI L xs h n σ N) (hN : N < 2 ^ 31) (hL : L ≤ 3072) (hi : i + 6 ≤ L) (hd : 20 ≤ d) (h1 : 380 ≤ bc) (h2 : 4500 ≤ bs) (K : ∀ (h' : AH) (n' : Nat) (σ' : CS), n ≤ n' → LI L xs h' n' σ' (N + 12) → SW SR0 ML_law d (bc - 380) (bs - 4500) 1944 [(4, .int (nI i)), (3, .ref 158), (2, .ref 135), (1, .ref 100), (0, .ref 0)] [] h' n' Post) : SW SR0 ML_law d bc bs 1112 [(4, .int (nI i)), (3, .ref 158), (2, .ref 135), (1, .ref 100), (0, .ref 0)] [] h n Post := by
  obtain ⟨hR, ⟨th, hQ⟩, hT, hV, ⟨w, s, hO⟩, hs, hn⟩ := hI
  refine sw_aload_n (pc' := 1113) rfl dL_law_1112 rfl ?_
  refine sw_aload_n (pc' := 1114) rfl dL_law_1113 rfl ?_
  refine sw_iload (pc' := 1116) rfl dL_law_1114 rfl ?_
  refine sw_iconst (pc' := 1117) (v := 1) rfl dL_law_1116 (by decide +kernel) ?_
  refine sw_iadd (pc' := 1118) rfl dL_law_1117 ?_
  rw [show (nI i) + 1 = nI (i + 1) from nI_add _ _]
  refine sw_iald (j := i + 1) (pc' := 1119) rfl dL_law_1118 hs rfl (by omega) (by omega) ?_
  refine sw_aload_n (pc' := 1120) rfl dL_law_1119 rfl ?_
  refine sw_iload (pc' := 1122) rfl dL_law_1120 rfl ?_
  refine sw_iconst (pc' := 1123) (v := 2) rfl dL_law_1122 (by decide +kernel) ?_
  refine sw_iadd (pc' := 1124) rfl dL_law_1123 ?_
  rw [show (nI i) + 2 = nI (i + 2) from nI_add _ _]
  refine sw_iald (j := i + 2) (pc' := 1125) rfl dL_law_1124 hs rfl (by omega) (by omega) ?_
  refine sw_aload_n (pc' := 1126) rfl dL_law_1125 rfl ?_
  refine sw_S (M' := ML_keep) (d' := d - 1) (bc' := 60) (bs' := 400) (as := [_, _, _, _]) dL_law_1126 w_964 ok_L_keep (L_keep hR hT hV hN hO hn (by omega) (Nat.le_refl _) (Nat.le_refl _)) (by omega) (Nat.le_of_ble_eq_true rfl) (by omega) (by omega) (fun E h' n' _ z => lpo_x z) (lpo_k (fun p pn pw ps pk pR pO pv pF => ?_))
  refine sw_istore (pc' := 1131) (lv' := [(5, _), (4, _), (3, _), (2, _), (1, _), (0, _)]) rfl dL_law_1129 (by decide +kernel) rfl ?_
  refine sw_aload_n (pc' := 1132) rfl dL_law_1131 rfl ?_
  refine sw_aload_n (pc' := 1133) rfl dL_law_1132 rfl ?_
  refine sw_iload (pc' := 1135) rfl dL_law_1133 rfl ?_
  refine sw_iconst (pc' := 1136) (v := 1) rfl dL_law_1135 (by decide +kernel) ?_
  refine sw_iadd (pc' := 1137) rfl dL_law_1136 ?_
  rw [show (nI i) + 1 = nI (i + 1) from nI_add _ _]
  refine sw_iald (j := i + 1) (pc' := 1138) rfl dL_law_1137 ((pF 0 (by omega) (by omega) (by omega)).trans hs) rfl (by omega) (by omega) ?_
  refine sw_aload_n (pc' := 1139) rfl dL_law_1138 rfl ?_
  refine sw_iload (pc' := 1141) rfl dL_law_1139 rfl ?_
  refine sw_iconst (pc' := 1142) (v := 2) rfl dL_law_1141 (by decide +kernel) ?_
  refine sw_iadd (pc' := 1143) rfl dL_law_1142 ?_
  rw [show (nI i) + 2 = nI (i + 2) from nI_add _ _]
  refine sw_iald (j := i + 2) (pc' := 1144) rfl dL_law_1143 ((pF 0 (by omega) (by omega) (by omega)).trans hs) rfl (by omega) (by omega) ?_
  have hQ2 := hQ.fr (fun i a b => pF i (by omega) (by omega) (by omega))
  obtain ⟨ρ, τ, hM, hA⟩ := id hQ2
  refine sw_V (M' := MX5_keep) (d' := d - 1) (bc' := 1) (bs' := 12) (ci := 6) (as := [_, _]) dL_law_1144 w_1375 ok_X5_keep (q_keep hQ2 (hV.iv hN) (by omega) (by omega) (Nat.le_refl _) (Nat.le_refl _)) hM.ob rfl (by omega) (Nat.le_of_ble_eq_true rfl) (by omega) (by omega) (fun E h' n' _ z => pmc_x z) (pmc_k ox_keep (fun u un ub uk uv uR uF => ?_))
  refine sw_istore (pc' := 1149) (lv' := [(6, _), (5, _), (4, _), (3, _), (2, _), (1, _), (0, _)]) rfl dL_law_1147 (by decide +kernel) rfl ?_
  refine sw_goto (tgt := 1944) dL_law_1149 (by decide +kernel) ?_
  have J : LI L xs u un (opKeep σ (xs (i + 1)) (xs (i + 2))).2 (N + 12) := ⟨pR.frT (fun i hi => uF i (by omega) (by omega)), ⟨_, uR⟩, hT.fr (fun i hi => (uF i (by omega) (by omega)).trans (pF i (by omega) (by omega) (by omega))), iv_keep hV, ⟨_, _, (uF 158 (by omega) (by omega)).trans pO⟩, (uF 0 (by omega) (by omega)).trans ((pF 0 (by omega) (by omega) (by omega)).trans hs), by omega⟩
  exact SW.pick [2, 3, 4, 5, 6] rfl ((K u un _ (by omega) J).bud (by omega) (by omega))
theorem lc_22 {L : Nat} {xs : Nat → Int32} {h : AH} {n i N d bc bs : Nat} {σ : CS} {Post : ARes → AH → Nat → Prop} (hI : LI L xs h n σ N) (hN : N < 2 ^ 31) (hL : L ≤ 3072) (hi : i + 6 ≤ L) (hd : 20 ≤ d) (h1 : 380 ≤ bc) (h2 : 4500 ≤ bs) (K : ∀ (h' : AH) (n' : Nat) (σ' : CS), n ≤ n' → LI L xs h' n' σ' (N + 12) → SW SR0 ML_law d (bc - 380) (bs - 4500) 1944 [(4, .int (nI i)), (3, .ref 158), (2, .ref 135), (1, .ref 100), (0, .ref 0)] [] h' n' Post) : SW SR0 ML_law d bc bs 1152 [(4, .int (nI i)), (3, .ref 158), (2, .ref 135), (1, .ref 100), (0, .ref 0)] [] h n Post := by
  obtain ⟨hR, ⟨th, hQ⟩, hT, hV, ⟨w, s, hO⟩, hs, hn⟩ := hI
  refine sw_aload_n (pc' := 1153) rfl dL_law_1152 rfl ?_
  refine sw_aload_n (pc' := 1154) rfl dL_law_1153 rfl ?_
  refine sw_iload (pc' := 1156) rfl dL_law_1154 rfl ?_
  refine sw_iconst (pc' := 1157) (v := 1) rfl dL_law_1156 (by decide +kernel) ?_
  refine sw_iadd (pc' := 1158) rfl dL_law_1157 ?_
  rw [show (nI i) + 1 = nI (i + 1) from nI_add _ _]
  refine sw_iald (j := i + 1) (pc' := 1159) rfl dL_law_1158 hs rfl (by omega) (by omega) ?_
  refine sw_aload_n (pc' := 1160) rfl dL_law_1159 rfl ?_
  refine sw_S (M' := ML_drop) (d' := d - 1) (bc' := 60) (bs' := 400) (as := [_, _, _]) dL_law_1160 w_971 ok_L_drop (L_drop hR hT hV hN hO hn (by omega) (Nat.le_refl _) (Nat.le_refl _)) (by omega) (Nat.le_of_ble_eq_true rfl) (by omega) (by omega) (fun E h' n' _ z => lpo_x z) (lpo_k (fun p pn pw ps pk pR pO pv pF => ?_))
  refine sw_istore (pc' := 1165) (lv' := [(5, _), (4, _), (3, _), (2, _), (1, _), (0, _)]) rfl dL_law_1163 (by decide +kernel) rfl ?_
  refine sw_aload_n (pc' := 1166) rfl dL_law_1165 rfl ?_
  refine sw_aload_n (pc' := 1167) rfl dL_law_1166 rfl ?_
  refine sw_iload (pc' := 1169) rfl dL_law_1167 rfl ?_
  refine sw_iconst (pc' := 1170) (v := 1) rfl dL_law_1169 (by decide +kernel) ?_
  refine sw_iadd (pc' := 1171) rfl dL_law_1170 ?_
  rw [show (nI i) + 1 = nI (i + 1) from nI_add _ _]
  refine sw_iald (j := i + 1) (pc' := 1172) rfl dL_law_1171 ((pF 0 (by omega) (by omega) (by omega)).trans hs) rfl (by omega) (by omega) ?_
  have hQ2 := hQ.fr (fun i a b => pF i (by omega) (by omega) (by omega))
  obtain ⟨ρ, τ, hM, hA⟩ := id hQ2
  refine sw_V (M' := MX5_drop) (d' := d - 1) (bc' := 1) (bs' := 12) (ci := 6) (as := [_]) dL_law_1172 w_1379 ok_X5_drop (q_drop hQ2 (hV.iv hN) (by omega) (by omega) (Nat.le_refl _) (Nat.le_refl _)) hM.ob rfl (by omega) (Nat.le_of_ble_eq_true rfl) (by omega) (by omega) (fun E h' n' _ z => pmc_x z) (pmc_k ox_drop (fun u un ub uk uv uR uF => ?_))
  refine sw_istore (pc' := 1177) (lv' := [(6, _), (5, _), (4, _), (3, _), (2, _), (1, _), (0, _)]) rfl dL_law_1175 (by decide +kernel) rfl ?_
  refine sw_goto (tgt := 1944) dL_law_1177 (by decide +kernel) ?_
  have J : LI L xs u un (opDrop σ (xs (i + 1))).2 (N + 12) := ⟨pR.frT (fun i hi => uF i (by omega) (by omega)), ⟨_, uR⟩, hT.fr (fun i hi => (uF i (by omega) (by omega)).trans (pF i (by omega) (by omega) (by omega))), iv_drop hV, ⟨_, _, (uF 158 (by omega) (by omega)).trans pO⟩, (uF 0 (by omega) (by omega)).trans ((pF 0 (by omega) (by omega) (by omega)).trans hs), by omega⟩
  exact SW.pick [2, 3, 4, 5, 6] rfl ((K u un _ (by omega) J).bud (by omega) (by omega))
theorem lc_23 {L : Nat} {xs : Nat → Int32} {h : AH} {n i N d bc bs : Nat} {σ : CS} {Post : ARes → AH → Nat → Prop} (hI : LI L xs h n σ N) (hN : N < 2 ^ 31) (hL : L ≤ 3072) (hi : i + 6 ≤ L) (hd : 20 ≤ d) (h1 : 380 ≤ bc) (h2 : 4500 ≤ bs) (K : ∀ (h' : AH) (n' : Nat) (σ' : CS), n ≤ n' → LI L xs h' n' σ' (N + 12) → SW SR0 ML_law d (bc - 380) (bs - 4500) 1944 [(4, .int (nI i)), (3, .ref 158), (2, .ref 135), (1, .ref 100), (0, .ref 0)] [] h' n' Post) : SW SR0 ML_law d bc bs 1180 [(4, .int (nI i)), (3, .ref 158), (2, .ref 135), (1, .ref 100), (0, .ref 0)] [] h n Post := by
  obtain ⟨hR, ⟨th, hQ⟩, hT, hV, ⟨w, s, hO⟩, hs, hn⟩ := hI
  refine sw_aload_n (pc' := 1181) rfl dL_law_1180 rfl ?_
  refine sw_aload_n (pc' := 1182) rfl dL_law_1181 rfl ?_
  refine sw_iload (pc' := 1184) rfl dL_law_1182 rfl ?_
  refine sw_iconst (pc' := 1185) (v := 1) rfl dL_law_1184 (by decide +kernel) ?_
  refine sw_iadd (pc' := 1186) rfl dL_law_1185 ?_
  rw [show (nI i) + 1 = nI (i + 1) from nI_add _ _]
  refine sw_iald (j := i + 1) (pc' := 1187) rfl dL_law_1186 hs rfl (by omega) (by omega) ?_
  refine sw_aload_n (pc' := 1188) rfl dL_law_1187 rfl ?_
  refine sw_iload (pc' := 1190) rfl dL_law_1188 rfl ?_
  refine sw_iconst (pc' := 1191) (v := 2) rfl dL_law_1190 (by decide +kernel) ?_
  refine sw_iadd (pc' := 1192) rfl dL_law_1191 ?_
  rw [show (nI i) + 2 = nI (i + 2) from nI_add _ _]
  refine sw_iald (j := i + 2) (pc' := 1193) rfl dL_law_1192 hs rfl (by omega) (by omega) ?_
  refine sw_aload_n (pc' := 1194) rfl dL_law_1193 rfl ?_
  refine sw_S (M' := ML_skip) (d' := d - 1) (bc' := 60) (bs' := 400) (as := [_, _, _, _]) dL_law_1194 w_978 ok_L_skip (L_skip hR hT hV hN hO hn (by omega) (Nat.le_refl _) (Nat.le_refl _)) (by omega) (Nat.le_of_ble_eq_true rfl) (by omega) (by omega) (fun E h' n' _ z => lpo_x z) (lpo_k (fun p pn pw ps pk pR pO pv pF => ?_))
  refine sw_istore (pc' := 1199) (lv' := [(5, _), (4, _), (3, _), (2, _), (1, _), (0, _)]) rfl dL_law_1197 (by decide +kernel) rfl ?_
  refine sw_aload_n (pc' := 1200) rfl dL_law_1199 rfl ?_
  refine sw_aload_n (pc' := 1201) rfl dL_law_1200 rfl ?_
  refine sw_iload (pc' := 1203) rfl dL_law_1201 rfl ?_
  refine sw_iconst (pc' := 1204) (v := 1) rfl dL_law_1203 (by decide +kernel) ?_
  refine sw_iadd (pc' := 1205) rfl dL_law_1204 ?_
  rw [show (nI i) + 1 = nI (i + 1) from nI_add _ _]
  refine sw_iald (j := i + 1) (pc' := 1206) rfl dL_law_1205 ((pF 0 (by omega) (by omega) (by omega)).trans hs) rfl (by omega) (by omega) ?_
  refine sw_aload_n (pc' := 1207) rfl dL_law_1206 rfl ?_
  refine sw_iload (pc' := 1209) rfl dL_law_1207 rfl ?_
  refine sw_iconst (pc' := 1210) (v := 2) rfl dL_law_1209 (by decide +kernel) ?_
  refine sw_iadd (pc' := 1211) rfl dL_law_1210 ?_
  rw [show (nI i) + 2 = nI (i + 2) from nI_add _ _]
  refine sw_iald (j := i + 2) (pc' := 1212) rfl dL_law_1211 ((pF 0 (by omega) (by omega) (by omega)).trans hs) rfl (by omega) (by omega) ?_
  have hQ2 := hQ.fr (fun i a b => pF i (by omega) (by omega) (by omega))
  obtain ⟨ρ, τ, hM, hA⟩ := id hQ2
  refine sw_V (M' := MX5_skip) (d' := d - 1) (bc' := 1) (bs' := 12) (ci := 6) (as := [_, _]) dL_law_1212 w_1383 ok_X5_skip (q_skip hQ2 (hV.iv hN) (by omega) (by omega) (Nat.le_refl _) (Nat.le_refl _)) hM.ob rfl (by omega) (Nat.le_of_ble_eq_true rfl) (by omega) (by omega) (fun E h' n' _ z => pmc_x z) (pmc_k ox_skip (fun u un ub uk uv uR uF => ?_))
  refine sw_istore (pc' := 1217) (lv' := [(6, _), (5, _), (4, _), (3, _), (2, _), (1, _), (0, _)]) rfl dL_law_1215 (by decide +kernel) rfl ?_
  refine sw_goto (tgt := 1944) dL_law_1217 (by decide +kernel) ?_
  have J : LI L xs u un (opSkip σ (xs (i + 1)) (xs (i + 2))).2 (N + 12) := ⟨pR.frT (fun i hi => uF i (by omega) (by omega)), ⟨_, uR⟩, hT.fr (fun i hi => (uF i (by omega) (by omega)).trans (pF i (by omega) (by omega) (by omega))), iv_skip hV, ⟨_, _, (uF 158 (by omega) (by omega)).trans pO⟩, (uF 0 (by omega) (by omega)).trans ((pF 0 (by omega) (by omega) (by omega)).trans hs), by omega⟩
  exact SW.pick [2, 3, 4, 5, 6] rfl ((K u un _ (by omega) J).bud (by omega) (by omega))
theorem lc_24 {L : Nat} {xs : Nat → Int32} {h : AH} {n i N d bc bs : Nat} {σ : CS} {Post : ARes → AH → Nat → Prop} (hI : LI L xs h n σ N) (hN : N < 2 ^ 31) (hL : L ≤ 3072) (hi : i + 6 ≤ L) (hd : 20 ≤ d) (h1 : 380 ≤ bc) (h2 : 4500 ≤ bs) (K : ∀ (h' : AH) (n' : Nat) (σ' : CS), n ≤ n' → LI L xs h' n' σ' (N + 12) → SW SR0 ML_law d (bc - 380) (bs - 4500) 1944 [(4, .int (nI i)), (3, .ref 158), (2, .ref 135), (1, .ref 100), (0, .ref 0)] [] h' n' Post) : SW SR0 ML_law d bc bs 1220 [(4, .int (nI i)), (3, .ref 158), (2, .ref 135), (1, .ref 100), (0, .ref 0)] [] h n Post := by
  obtain ⟨hR, ⟨th, hQ⟩, hT, hV, ⟨w, s, hO⟩, hs, hn⟩ := hI
  refine sw_aload_n (pc' := 1221) rfl dL_law_1220 rfl ?_
  refine sw_aload_n (pc' := 1222) rfl dL_law_1221 rfl ?_
  refine sw_iload (pc' := 1224) rfl dL_law_1222 rfl ?_
  refine sw_iconst (pc' := 1225) (v := 1) rfl dL_law_1224 (by decide +kernel) ?_
  refine sw_iadd (pc' := 1226) rfl dL_law_1225 ?_
  rw [show (nI i) + 1 = nI (i + 1) from nI_add _ _]
  refine sw_iald (j := i + 1) (pc' := 1227) rfl dL_law_1226 hs rfl (by omega) (by omega) ?_
  refine sw_aload_n (pc' := 1228) rfl dL_law_1227 rfl ?_
  refine sw_iload (pc' := 1230) rfl dL_law_1228 rfl ?_
  refine sw_iconst (pc' := 1231) (v := 2) rfl dL_law_1230 (by decide +kernel) ?_
  refine sw_iadd (pc' := 1232) rfl dL_law_1231 ?_
  rw [show (nI i) + 2 = nI (i + 2) from nI_add _ _]
  refine sw_iald (j := i + 2) (pc' := 1233) rfl dL_law_1232 hs rfl (by omega) (by omega) ?_
  refine sw_aload_n (pc' := 1234) rfl dL_law_1233 rfl ?_
  refine sw_S (M' := ML_pourRest) (d' := d - 1) (bc' := 60) (bs' := 400) (as := [_, _, _, _]) dL_law_1234 w_985 ok_L_pourRest (L_pourRest hR hT hV hN hO hn (by omega) (Nat.le_refl _) (Nat.le_refl _)) (by omega) (Nat.le_of_ble_eq_true rfl) (by omega) (by omega) (fun E h' n' _ z => lpo_x z) (lpo_k (fun p pn pw ps pk pR pO pv pF => ?_))
  refine sw_istore (pc' := 1239) (lv' := [(5, _), (4, _), (3, _), (2, _), (1, _), (0, _)]) rfl dL_law_1237 (by decide +kernel) rfl ?_
  refine sw_aload_n (pc' := 1240) rfl dL_law_1239 rfl ?_
  refine sw_aload_n (pc' := 1241) rfl dL_law_1240 rfl ?_
  refine sw_iload (pc' := 1243) rfl dL_law_1241 rfl ?_
  refine sw_iconst (pc' := 1244) (v := 1) rfl dL_law_1243 (by decide +kernel) ?_
  refine sw_iadd (pc' := 1245) rfl dL_law_1244 ?_
  rw [show (nI i) + 1 = nI (i + 1) from nI_add _ _]
  refine sw_iald (j := i + 1) (pc' := 1246) rfl dL_law_1245 ((pF 0 (by omega) (by omega) (by omega)).trans hs) rfl (by omega) (by omega) ?_
  refine sw_aload_n (pc' := 1247) rfl dL_law_1246 rfl ?_
  refine sw_iload (pc' := 1249) rfl dL_law_1247 rfl ?_
  refine sw_iconst (pc' := 1250) (v := 2) rfl dL_law_1249 (by decide +kernel) ?_
  refine sw_iadd (pc' := 1251) rfl dL_law_1250 ?_
  rw [show (nI i) + 2 = nI (i + 2) from nI_add _ _]
  refine sw_iald (j := i + 2) (pc' := 1252) rfl dL_law_1251 ((pF 0 (by omega) (by omega) (by omega)).trans hs) rfl (by omega) (by omega) ?_
  have hQ2 := hQ.fr (fun i a b => pF i (by omega) (by omega) (by omega))
  obtain ⟨ρ, τ, hM, hA⟩ := id hQ2
  refine sw_V (M' := MX5_pourRest) (d' := d - 1) (bc' := 1) (bs' := 12) (ci := 6) (as := [_, _]) dL_law_1252 w_1387 ok_X5_pourRest (q_pourRest hQ2 (hV.iv hN) (by omega) (by omega) (Nat.le_refl _) (Nat.le_refl _)) hM.ob rfl (by omega) (Nat.le_of_ble_eq_true rfl) (by omega) (by omega) (fun E h' n' _ z => pmc_x z) (pmc_k ox_pourRest (fun u un ub uk uv uR uF => ?_))
  refine sw_istore (pc' := 1257) (lv' := [(6, _), (5, _), (4, _), (3, _), (2, _), (1, _), (0, _)]) rfl dL_law_1255 (by decide +kernel) rfl ?_
  refine sw_goto (tgt := 1944) dL_law_1257 (by decide +kernel) ?_
  have J : LI L xs u un (opPourRest σ (xs (i + 1)) (xs (i + 2))).2 (N + 12) := ⟨pR.frT (fun i hi => uF i (by omega) (by omega)), ⟨_, uR⟩, hT.fr (fun i hi => (uF i (by omega) (by omega)).trans (pF i (by omega) (by omega) (by omega))), iv_pourRest hV hN, ⟨_, _, (uF 158 (by omega) (by omega)).trans pO⟩, (uF 0 (by omega) (by omega)).trans ((pF 0 (by omega) (by omega) (by omega)).trans hs), by omega⟩
  exact SW.pick [2, 3, 4, 5, 6] rfl ((K u un _ (by omega) J).bud (by omega) (by omega))
theorem lc_25 {L : Nat} {xs : Nat → Int32} {h : AH} {n i N d bc bs : Nat} {σ : CS} {Post : ARes → AH → Nat → Prop} (hI : LI L xs h n σ N) (hN : N < 2 ^ 31) (hL : L ≤ 3072) (hi : i + 6 ≤ L) (hd : 20 ≤ d) (h1 : 380 ≤ bc) (h2 : 4500 ≤ bs) (K : ∀ (h' : AH) (n' : Nat) (σ' : CS), n ≤ n' → LI L xs h' n' σ' (N + 12) → SW SR0 ML_law d (bc - 380) (bs - 4500) 1944 [(4, .int (nI i)), (3, .ref 158), (2, .ref 135), (1, .ref 100), (0, .ref 0)] [] h' n' Post) : SW SR0 ML_law d bc bs 1260 [(4, .int (nI i)), (3, .ref 158), (2, .ref 135), (1, .ref 100), (0, .ref 0)] [] h n Post := by
  obtain ⟨hR, ⟨th, hQ⟩, hT, hV, ⟨w, s, hO⟩, hs, hn⟩ := hI
  refine sw_aload_n (pc' := 1261) rfl dL_law_1260 rfl ?_
  refine sw_aload_n (pc' := 1262) rfl dL_law_1261 rfl ?_
  refine sw_iload (pc' := 1264) rfl dL_law_1262 rfl ?_
  refine sw_iconst (pc' := 1265) (v := 1) rfl dL_law_1264 (by decide +kernel) ?_
  refine sw_iadd (pc' := 1266) rfl dL_law_1265 ?_
  rw [show (nI i) + 1 = nI (i + 1) from nI_add _ _]
  refine sw_iald (j := i + 1) (pc' := 1267) rfl dL_law_1266 hs rfl (by omega) (by omega) ?_
  refine sw_aload_n (pc' := 1268) rfl dL_law_1267 rfl ?_
  refine sw_iload (pc' := 1270) rfl dL_law_1268 rfl ?_
  refine sw_iconst (pc' := 1271) (v := 2) rfl dL_law_1270 (by decide +kernel) ?_
  refine sw_iadd (pc' := 1272) rfl dL_law_1271 ?_
  rw [show (nI i) + 2 = nI (i + 2) from nI_add _ _]
  refine sw_iald (j := i + 2) (pc' := 1273) rfl dL_law_1272 hs rfl (by omega) (by omega) ?_
  refine sw_aload_n (pc' := 1274) rfl dL_law_1273 rfl ?_
  refine sw_S (M' := ML_zip) (d' := d - 1) (bc' := 60) (bs' := 400) (as := [_, _, _, _]) dL_law_1274 w_992 ok_L_zip (L_zip hR hT hV hN hO hn (by omega) (Nat.le_refl _) (Nat.le_refl _)) (by omega) (Nat.le_of_ble_eq_true rfl) (by omega) (by omega) (fun E h' n' _ z => lpo_x z) (lpo_k (fun p pn pw ps pk pR pO pv pF => ?_))
  refine sw_istore (pc' := 1279) (lv' := [(5, _), (4, _), (3, _), (2, _), (1, _), (0, _)]) rfl dL_law_1277 (by decide +kernel) rfl ?_
  refine sw_aload_n (pc' := 1280) rfl dL_law_1279 rfl ?_
  refine sw_aload_n (pc' := 1281) rfl dL_law_1280 rfl ?_
  refine sw_iload (pc' := 1283) rfl dL_law_1281 rfl ?_
  refine sw_iconst (pc' := 1284) (v := 1) rfl dL_law_1283 (by decide +kernel) ?_
  refine sw_iadd (pc' := 1285) rfl dL_law_1284 ?_
  rw [show (nI i) + 1 = nI (i + 1) from nI_add _ _]
  refine sw_iald (j := i + 1) (pc' := 1286) rfl dL_law_1285 ((pF 0 (by omega) (by omega) (by omega)).trans hs) rfl (by omega) (by omega) ?_
  refine sw_aload_n (pc' := 1287) rfl dL_law_1286 rfl ?_
  refine sw_iload (pc' := 1289) rfl dL_law_1287 rfl ?_
  refine sw_iconst (pc' := 1290) (v := 2) rfl dL_law_1289 (by decide +kernel) ?_
  refine sw_iadd (pc' := 1291) rfl dL_law_1290 ?_
  rw [show (nI i) + 2 = nI (i + 2) from nI_add _ _]
  refine sw_iald (j := i + 2) (pc' := 1292) rfl dL_law_1291 ((pF 0 (by omega) (by omega) (by omega)).trans hs) rfl (by omega) (by omega) ?_
  have hQ2 := hQ.fr (fun i a b => pF i (by omega) (by omega) (by omega))
  obtain ⟨ρ, τ, hM, hA⟩ := id hQ2
  have pT := hT.fr (fun i hi => pF i (by omega) (by omega) (by omega))
  refine sw_V (M' := MX5_zip) (d' := d - 1) (bc' := 300) (bs' := 3400) (ci := 6) (as := [_, _]) dL_law_1292 w_1391 ok_X5_zip (q_zip hQ2 (hV.iv hN) (by omega) (by omega) (Nat.le_refl _) (Nat.le_refl _) pT hV hN) hM.ob rfl (by omega) (Nat.le_of_ble_eq_true rfl) (by omega) (by omega) (fun E h' n' _ z => ptc_x z) (ptc_k (fun u un ux uP => ?_))
  obtain ⟨uk, -, uR, uF⟩ := uP
  refine sw_astore (pc' := 1297) (lv' := [(6, _), (5, _), (4, _), (3, _), (2, _), (1, _), (0, _)]) rfl dL_law_1295 (by decide +kernel) rfl ?_
  refine sw_goto (tgt := 1944) dL_law_1297 (by decide +kernel) ?_
  have J : LI L xs u un (opZip σ (xs (i + 1)) (xs (i + 2))).2 (N + 12) := ⟨pR.frT (fun i hi => uF i (by omega) (by omega)), ⟨_, uR⟩, hT.fr (fun i hi => (uF i (by omega) (by omega)).trans (pF i (by omega) (by omega) (by omega))), iv_zip hV, ⟨_, _, (uF 158 (by omega) (by omega)).trans pO⟩, (uF 0 (by omega) (by omega)).trans ((pF 0 (by omega) (by omega) (by omega)).trans hs), by omega⟩
  exact SW.pick [2, 3, 4, 5, 6] rfl ((K u un _ (by omega) J).bud (by omega) (by omega))
theorem lc_26 {L : Nat} {xs : Nat → Int32} {h : AH} {n i N d bc bs : Nat} {σ : CS} {Post : ARes → AH → Nat → Prop} (hI : LI L xs h n σ N) (hN : N < 2 ^ 31) (hL : L ≤ 3072) (hi : i + 6 ≤ L) (hd : 20 ≤ d) (h1 : 380 ≤ bc) (h2 : 4500 ≤ bs) (K : ∀ (h' : AH) (n' : Nat) (σ' : CS), n ≤ n' → LI L xs h' n' σ' (N + 12) → SW SR0 ML_law d (bc - 380) (bs - 4500) 1944 [(4, .int (nI i)), (3, .ref 158), (2, .ref 135), (1, .ref 100), (0, .ref 0)] [] h' n' Post) : SW SR0 ML_law d bc bs 1300 [(4, .int (nI i)), (3, .ref 158), (2, .ref 135), (1, .ref 100), (0, .ref 0)] [] h n Post := by
  obtain ⟨hR, ⟨th, hQ⟩, hT, hV, ⟨w, s, hO⟩, hs, hn⟩ := hI
  refine sw_aload_n (pc' := 1301) rfl dL_law_1300 rfl ?_
  refine sw_aload_n (pc' := 1302) rfl dL_law_1301 rfl ?_
  refine sw_iload (pc' := 1304) rfl dL_law_1302 rfl ?_
  refine sw_iconst (pc' := 1305) (v := 1) rfl dL_law_1304 (by decide +kernel) ?_
  refine sw_iadd (pc' := 1306) rfl dL_law_1305 ?_
  rw [show (nI i) + 1 = nI (i + 1) from nI_add _ _]
  refine sw_iald (j := i + 1) (pc' := 1307) rfl dL_law_1306 hs rfl (by omega) (by omega) ?_
  refine sw_aload_n (pc' := 1308) rfl dL_law_1307 rfl ?_
  refine sw_S (M' := ML_text) (d' := d - 1) (bc' := 60) (bs' := 400) (as := [_, _, _]) dL_law_1308 w_1000 ok_L_text (L_text hR hT hV hN hO hn (by omega) (Nat.le_refl _) (Nat.le_refl _)) (by omega) (Nat.le_of_ble_eq_true rfl) (by omega) (by omega) (fun E h' n' _ z => lpo_x z) (lpo_k (fun p pn pw ps pk pR pO pv pF => ?_))
  refine sw_istore (pc' := 1313) (lv' := [(5, _), (4, _), (3, _), (2, _), (1, _), (0, _)]) rfl dL_law_1311 (by decide +kernel) rfl ?_
  refine sw_aload_n (pc' := 1314) rfl dL_law_1313 rfl ?_
  refine sw_aload_n (pc' := 1315) rfl dL_law_1314 rfl ?_
  refine sw_iload (pc' := 1317) rfl dL_law_1315 rfl ?_
  refine sw_iconst (pc' := 1318) (v := 1) rfl dL_law_1317 (by decide +kernel) ?_
  refine sw_iadd (pc' := 1319) rfl dL_law_1318 ?_
  rw [show (nI i) + 1 = nI (i + 1) from nI_add _ _]
  refine sw_iald (j := i + 1) (pc' := 1320) rfl dL_law_1319 ((pF 0 (by omega) (by omega) (by omega)).trans hs) rfl (by omega) (by omega) ?_
  have hQ2 := hQ.fr (fun i a b => pF i (by omega) (by omega) (by omega))
  obtain ⟨ρ, τ, hM, hA⟩ := id hQ2
  have pT := hT.fr (fun i hi => pF i (by omega) (by omega) (by omega))
  refine sw_V (M' := MX5_text_) (d' := d - 1) (bc' := 200) (bs' := 2800) (ci := 6) (as := [_]) dL_law_1320 w_1400 ok_X5_text_ (q_text hQ2 (hV.iv hN) (by omega) (by omega) (Nat.le_refl _) (Nat.le_refl _) pT) hM.ob rfl (by omega) (Nat.le_of_ble_eq_true rfl) (by omega) (by omega) (fun E h' n' _ z => ptc_x z) (ptc_k (fun u un ux uP => ?_))
  obtain ⟨uk, -, uR, uF⟩ := uP
  refine sw_astore (pc' := 1325) (lv' := [(6, _), (5, _), (4, _), (3, _), (2, _), (1, _), (0, _)]) rfl dL_law_1323 (by decide +kernel) rfl ?_
  refine sw_goto (tgt := 1944) dL_law_1325 (by decide +kernel) ?_
  have J : LI L xs u un (opText σ (xs (i + 1))).2 (N + 12) := ⟨pR.frT (fun i hi => uF i (by omega) (by omega)), ⟨_, uR⟩, hT.fr (fun i hi => (uF i (by omega) (by omega)).trans (pF i (by omega) (by omega) (by omega))), iv_text hV, ⟨_, _, (uF 158 (by omega) (by omega)).trans pO⟩, (uF 0 (by omega) (by omega)).trans ((pF 0 (by omega) (by omega) (by omega)).trans hs), by omega⟩
  exact SW.pick [2, 3, 4, 5, 6] rfl ((K u un _ (by omega) J).bud (by omega) (by omega))
theorem lc_27 {L : Nat} {xs : Nat → Int32} {h : AH} {n i N d bc bs : Nat} {σ : CS} {Post : ARes → AH → Nat → Prop} (hI : LI L xs h n σ N) (hN : N < 2 ^ 31) (hL : L ≤ 3072) (hi : i + 6 ≤ L) (hd : 20 ≤ d) (h1 : 380 ≤ bc) (h2 : 4500 ≤ bs) (K : ∀ (h' : AH) (n' : Nat) (σ' : CS), n ≤ n' → LI L xs h' n' σ' (N + 12) → SW SR0 ML_law d (bc - 380) (bs - 4500) 1944 [(4, .int (nI i)), (3, .ref 158), (2, .ref 135), (1, .ref 100), (0, .ref 0)] [] h' n' Post) : SW SR0 ML_law d bc bs 1328 [(4, .int (nI i)), (3, .ref 158), (2, .ref 135), (1, .ref 100), (0, .ref 0)] [] h n Post := by
  obtain ⟨hR, ⟨th, hQ⟩, hT, hV, ⟨w, s, hO⟩, hs, hn⟩ := hI
  refine sw_aload_n (pc' := 1329) rfl dL_law_1328 rfl ?_
  refine sw_aload_n (pc' := 1330) rfl dL_law_1329 rfl ?_
  refine sw_iload (pc' := 1332) rfl dL_law_1330 rfl ?_
  refine sw_iconst (pc' := 1333) (v := 1) rfl dL_law_1332 (by decide +kernel) ?_
  refine sw_iadd (pc' := 1334) rfl dL_law_1333 ?_
  rw [show (nI i) + 1 = nI (i + 1) from nI_add _ _]
  refine sw_iald (j := i + 1) (pc' := 1335) rfl dL_law_1334 hs rfl (by omega) (by omega) ?_
  refine sw_aload_n (pc' := 1336) rfl dL_law_1335 rfl ?_
  refine sw_S (M' := ML_list) (d' := d - 1) (bc' := 60) (bs' := 400) (as := [_, _, _]) dL_law_1336 w_1007 ok_L_list (L_list hR hT hV hN hO hn (by omega) (Nat.le_refl _) (Nat.le_refl _)) (by omega) (Nat.le_of_ble_eq_true rfl) (by omega) (by omega) (fun E h' n' _ z => lpo_x z) (lpo_k (fun p pn pw ps pk pR pO pv pF => ?_))
  refine sw_istore (pc' := 1341) (lv' := [(5, _), (4, _), (3, _), (2, _), (1, _), (0, _)]) rfl dL_law_1339 (by decide +kernel) rfl ?_
  refine sw_aload_n (pc' := 1342) rfl dL_law_1341 rfl ?_
  refine sw_aload_n (pc' := 1343) rfl dL_law_1342 rfl ?_
  refine sw_iload (pc' := 1345) rfl dL_law_1343 rfl ?_
  refine sw_iconst (pc' := 1346) (v := 1) rfl dL_law_1345 (by decide +kernel) ?_
  refine sw_iadd (pc' := 1347) rfl dL_law_1346 ?_
  rw [show (nI i) + 1 = nI (i + 1) from nI_add _ _]
  refine sw_iald (j := i + 1) (pc' := 1348) rfl dL_law_1347 ((pF 0 (by omega) (by omega) (by omega)).trans hs) rfl (by omega) (by omega) ?_
  have hQ2 := hQ.fr (fun i a b => pF i (by omega) (by omega) (by omega))
  obtain ⟨ρ, τ, hM, hA⟩ := id hQ2
  have pT := hT.fr (fun i hi => pF i (by omega) (by omega) (by omega))
  refine sw_V (M' := MX5_list) (d' := d - 1) (bc' := 200) (bs' := 2800) (ci := 6) (as := [_]) dL_law_1348 w_1404 ok_X5_list (q_list hQ2 (hV.iv hN) (by omega) (by omega) (Nat.le_refl _) (Nat.le_refl _) pT) hM.ob rfl (by omega) (Nat.le_of_ble_eq_true rfl) (by omega) (by omega) (fun E h' n' _ z => ptc_x z) (ptc_k (fun u un ux uP => ?_))
  obtain ⟨uk, -, uR, uF⟩ := uP
  refine sw_astore (pc' := 1353) (lv' := [(6, _), (5, _), (4, _), (3, _), (2, _), (1, _), (0, _)]) rfl dL_law_1351 (by decide +kernel) rfl ?_
  refine sw_goto (tgt := 1944) dL_law_1353 (by decide +kernel) ?_
  have J : LI L xs u un (opText σ (xs (i + 1))).2 (N + 12) := ⟨pR.frT (fun i hi => uF i (by omega) (by omega)), ⟨_, uR⟩, hT.fr (fun i hi => (uF i (by omega) (by omega)).trans (pF i (by omega) (by omega) (by omega))), iv_text hV, ⟨_, _, (uF 158 (by omega) (by omega)).trans pO⟩, (uF 0 (by omega) (by omega)).trans ((pF 0 (by omega) (by omega) (by omega)).trans hs), by omega⟩
  exact SW.pick [2, 3, 4, 5, 6] rfl ((K u un _ (by omega) J).bud (by omega) (by omega))
theorem lc_28 {L : Nat} {xs : Nat → Int32} {h : AH} {n i N d bc bs : Nat} {σ : CS} {Post : ARes → AH → Nat → Prop} (hI : LI L xs h n σ N) (hN : N < 2 ^ 31) (hL : L ≤ 3072) (hi : i + 6 ≤ L) (hd : 20 ≤ d) (h1 : 380 ≤ bc) (h2 : 4500 ≤ bs) (K : ∀ (h' : AH) (n' : Nat) (σ' : CS), n ≤ n' → LI L xs h' n' σ' (N + 12) → SW SR0 ML_law d (bc - 380) (bs - 4500) 1944 [(4, .int (nI i)), (3, .ref 158), (2, .ref 135), (1, .ref 100), (0, .ref 0)] [] h' n' Post) : SW SR0 ML_law d bc bs 1356 [(4, .int (nI i)), (3, .ref 158), (2, .ref 135), (1, .ref 100), (0, .ref 0)] [] h n Post := by
  obtain ⟨hR, ⟨th, hQ⟩, hT, hV, ⟨w, s, hO⟩, hs, hn⟩ := hI
  refine sw_aload_n (pc' := 1357) rfl dL_law_1356 rfl ?_
  refine sw_aload_n (pc' := 1358) rfl dL_law_1357 rfl ?_
  refine sw_iload (pc' := 1360) rfl dL_law_1358 rfl ?_
  refine sw_iconst (pc' := 1361) (v := 1) rfl dL_law_1360 (by decide +kernel) ?_
  refine sw_iadd (pc' := 1362) rfl dL_law_1361 ?_
  rw [show (nI i) + 1 = nI (i + 1) from nI_add _ _]
  refine sw_iald (j := i + 1) (pc' := 1363) rfl dL_law_1362 hs rfl (by omega) (by omega) ?_
  refine sw_aload_n (pc' := 1364) rfl dL_law_1363 rfl ?_
  refine sw_S (M' := ML_size) (d' := d - 1) (bc' := 60) (bs' := 400) (as := [_, _, _]) dL_law_1364 w_1014 ok_L_size (L_size hR hT hV hN hO hn (by omega) (Nat.le_refl _) (Nat.le_refl _)) (by omega) (Nat.le_of_ble_eq_true rfl) (by omega) (by omega) (fun E h' n' _ z => lpo_x z) (lpo_k (fun p pn pw ps pk pR pO pv pF => ?_))
  refine sw_istore (pc' := 1369) (lv' := [(5, _), (4, _), (3, _), (2, _), (1, _), (0, _)]) rfl dL_law_1367 (by decide +kernel) rfl ?_
  refine sw_aload_n (pc' := 1370) rfl dL_law_1369 rfl ?_
  refine sw_aload_n (pc' := 1371) rfl dL_law_1370 rfl ?_
  refine sw_iload (pc' := 1373) rfl dL_law_1371 rfl ?_
  refine sw_iconst (pc' := 1374) (v := 1) rfl dL_law_1373 (by decide +kernel) ?_
  refine sw_iadd (pc' := 1375) rfl dL_law_1374 ?_
  rw [show (nI i) + 1 = nI (i + 1) from nI_add _ _]
  refine sw_iald (j := i + 1) (pc' := 1376) rfl dL_law_1375 ((pF 0 (by omega) (by omega) (by omega)).trans hs) rfl (by omega) (by omega) ?_
  have hQ2 := hQ.fr (fun i a b => pF i (by omega) (by omega) (by omega))
  obtain ⟨ρ, τ, hM, hA⟩ := id hQ2
  refine sw_V (M' := MX5_size) (d' := d - 1) (bc' := 1) (bs' := 12) (ci := 6) (as := [_]) dL_law_1376 w_1409 ok_X5_size (q_size hQ2 (hV.iv hN) (by omega) (by omega) (Nat.le_refl _) (Nat.le_refl _)) hM.ob rfl (by omega) (Nat.le_of_ble_eq_true rfl) (by omega) (by omega) (fun E h' n' _ z => pmc_x z) (pmc_k ox_size (fun u un ub uk uv uR uF => ?_))
  refine sw_istore (pc' := 1381) (lv' := [(6, _), (5, _), (4, _), (3, _), (2, _), (1, _), (0, _)]) rfl dL_law_1379 (by decide +kernel) rfl ?_
  refine sw_aload_n (pc' := 1382) rfl dL_law_1381 rfl ?_
  obtain ⟨uρ, uτ, uM, uA⟩ := id uR
  refine sw_V (M' := MX5_thrown) (d' := d - 1) (bc' := 0) (bs' := 0) (ci := 6) (as := []) dL_law_1382 w_1157 ok_X5_thrown (q_thrown uM) uM.ob rfl (by omega) (Nat.le_of_ble_eq_true rfl) (Nat.zero_le _) (Nat.zero_le _) (fun E h' n' _ z => det_x z) (det_k ?_)
  refine sw_iload (pc' := 1387) rfl dL_law_1385 rfl ?_
  refine sw_icmp_eq (pc' := 1390) (tgt := 1392) rfl dL_law_1387 (by decide +kernel) (fun c1387 => ?_) (fun c1387 => ?_)
  · refine sw_iload (pc' := 1394) rfl dL_law_1392 rfl ?_
    refine sw_if_ne (pc' := 1397) (tgt := 1410) rfl dL_law_1394 (by decide +kernel) (fun c1394 => ?_) (fun c1394 => ?_)
    · refine sw_goto (tgt := 1944) dL_law_1410 (by decide +kernel) ?_
      have J : LI L xs u un (opSize σ (xs (i + 1))).2 (N + 12) := ⟨pR.frT (fun i hi => uF i (by omega) (by omega)), ⟨_, uR⟩, hT.fr (fun i hi => (uF i (by omega) (by omega)).trans (pF i (by omega) (by omega) (by omega))), iv_size hV, ⟨_, _, (uF 158 (by omega) (by omega)).trans pO⟩, (uF 0 (by omega) (by omega)).trans ((pF 0 (by omega) (by omega) (by omega)).trans hs), by omega⟩
      exact SW.pick [2, 3, 4, 5, 6] rfl ((K u un _ (by omega) J).bud (by omega) (by omega))
    · refine sw_aload_n (pc' := 1398) rfl dL_law_1397 rfl ?_
      refine sw_getN (ci := 5) (k := 0) (pc' := 1401) rfl dL_law_1398 (by decide +kernel) v_347 ((uF 158 (by omega) (by omega)).trans pO) (by show 100 ≤ _; omega) rfl ?_
      refine sw_iload (pc' := 1403) rfl dL_law_1401 rfl ?_
      refine sw_i2l (pc' := 1404) rfl dL_law_1403 ?_
      refine sw_lcmp (pc' := 1405) rfl dL_law_1404 ?_
      refine sw_if_eq (pc' := 1408) (tgt := 1410) rfl dL_law_1405 (by decide +kernel) (fun c1405 => ?_) (fun c1405 => ?_)
      · refine sw_goto (tgt := 1944) dL_law_1410 (by decide +kernel) ?_
        have J : LI L xs u un (opSize σ (xs (i + 1))).2 (N + 12) := ⟨pR.frT (fun i hi => uF i (by omega) (by omega)), ⟨_, uR⟩, hT.fr (fun i hi => (uF i (by omega) (by omega)).trans (pF i (by omega) (by omega) (by omega))), iv_size hV, ⟨_, _, (uF 158 (by omega) (by omega)).trans pO⟩, (uF 0 (by omega) (by omega)).trans ((pF 0 (by omega) (by omega) (by omega)).trans hs), by omega⟩
        exact SW.pick [2, 3, 4, 5, 6] rfl ((K u un _ (by omega) J).bud (by omega) (by omega))
      · obtain ⟨v9, e9⟩ := ox_0 ox_size c1394
        exact absurd (by rw [pv v9 e9, uv v9 e9]; exact lg_self _) c1405
  · exact absurd rfl c1387
theorem lc_29 {L : Nat} {xs : Nat → Int32} {h : AH} {n i N d bc bs : Nat} {σ : CS} {Post : ARes → AH → Nat → Prop} (hI : LI L xs h n σ N) (hN : N < 2 ^ 31) (hL : L ≤ 3072) (hi : i + 6 ≤ L) (hd : 20 ≤ d) (h1 : 380 ≤ bc) (h2 : 4500 ≤ bs) (K : ∀ (h' : AH) (n' : Nat) (σ' : CS), n ≤ n' → LI L xs h' n' σ' (N + 12) → SW SR0 ML_law d (bc - 380) (bs - 4500) 1944 [(4, .int (nI i)), (3, .ref 158), (2, .ref 135), (1, .ref 100), (0, .ref 0)] [] h' n' Post) : SW SR0 ML_law d bc bs 1413 [(4, .int (nI i)), (3, .ref 158), (2, .ref 135), (1, .ref 100), (0, .ref 0)] [] h n Post := by
  obtain ⟨hR, ⟨th, hQ⟩, hT, hV, ⟨w, s, hO⟩, hs, hn⟩ := hI
  refine sw_aload_n (pc' := 1414) rfl dL_law_1413 rfl ?_
  refine sw_aload_n (pc' := 1415) rfl dL_law_1414 rfl ?_
  refine sw_iload (pc' := 1417) rfl dL_law_1415 rfl ?_
  refine sw_iconst (pc' := 1418) (v := 1) rfl dL_law_1417 (by decide +kernel) ?_
  refine sw_iadd (pc' := 1419) rfl dL_law_1418 ?_
  rw [show (nI i) + 1 = nI (i + 1) from nI_add _ _]
  refine sw_iald (j := i + 1) (pc' := 1420) rfl dL_law_1419 hs rfl (by omega) (by omega) ?_
  refine sw_aload_n (pc' := 1421) rfl dL_law_1420 rfl ?_
  refine sw_S (M' := ML_isEmpty) (d' := d - 1) (bc' := 60) (bs' := 400) (as := [_, _, _]) dL_law_1421 w_1021 ok_L_isEmpty (L_isEmpty hR hT hV hN hO hn (by omega) (Nat.le_refl _) (Nat.le_refl _)) (by omega) (Nat.le_of_ble_eq_true rfl) (by omega) (by omega) (fun E h' n' _ z => lpo_x z) (lpo_k (fun p pn pw ps pk pR pO pv pF => ?_))
  refine sw_istore (pc' := 1426) (lv' := [(5, _), (4, _), (3, _), (2, _), (1, _), (0, _)]) rfl dL_law_1424 (by decide +kernel) rfl ?_
  refine sw_aload_n (pc' := 1427) rfl dL_law_1426 rfl ?_
  refine sw_aload_n (pc' := 1428) rfl dL_law_1427 rfl ?_
  refine sw_iload (pc' := 1430) rfl dL_law_1428 rfl ?_
  refine sw_iconst (pc' := 1431) (v := 1) rfl dL_law_1430 (by decide +kernel) ?_
  refine sw_iadd (pc' := 1432) rfl dL_law_1431 ?_
  rw [show (nI i) + 1 = nI (i + 1) from nI_add _ _]
  refine sw_iald (j := i + 1) (pc' := 1433) rfl dL_law_1432 ((pF 0 (by omega) (by omega) (by omega)).trans hs) rfl (by omega) (by omega) ?_
  have hQ2 := hQ.fr (fun i a b => pF i (by omega) (by omega) (by omega))
  obtain ⟨ρ, τ, hM, hA⟩ := id hQ2
  refine sw_V (M' := MX5_isEmpty) (d' := d - 1) (bc' := 1) (bs' := 12) (ci := 6) (as := [_]) dL_law_1433 w_1413 ok_X5_isEmpty (q_isEmpty hQ2 (hV.iv hN) (by omega) (by omega) (Nat.le_refl _) (Nat.le_refl _)) hM.ob rfl (by omega) (Nat.le_of_ble_eq_true rfl) (by omega) (by omega) (fun E h' n' _ z => pmc_x z) (pmc_k ox_isEmpty (fun u un ub uk uv uR uF => ?_))
  refine sw_istore (pc' := 1438) (lv' := [(6, _), (5, _), (4, _), (3, _), (2, _), (1, _), (0, _)]) rfl dL_law_1436 (by decide +kernel) rfl ?_
  refine sw_goto (tgt := 1944) dL_law_1438 (by decide +kernel) ?_
  have J : LI L xs u un (opIsEmpty σ (xs (i + 1))).2 (N + 12) := ⟨pR.frT (fun i hi => uF i (by omega) (by omega)), ⟨_, uR⟩, hT.fr (fun i hi => (uF i (by omega) (by omega)).trans (pF i (by omega) (by omega) (by omega))), iv_isEmpty hV, ⟨_, _, (uF 158 (by omega) (by omega)).trans pO⟩, (uF 0 (by omega) (by omega)).trans ((pF 0 (by omega) (by omega) (by omega)).trans hs), by omega⟩
  exact SW.pick [2, 3, 4, 5, 6] rfl ((K u un _ (by omega) J).bud (by omega) (by omega))
theorem lc_30 {L : Nat} {xs : Nat → Int32} {h : AH} {n i N d bc bs : Nat} {σ : CS} {Post : ARes → AH → Nat → Prop} (hI : LI L xs h n σ N) (hN : N < 2 ^ 31) (hL : L ≤ 3072) (hi : i + 6 ≤ L) (hd : 20 ≤ d) (h1 : 380 ≤ bc) (h2 : 4500 ≤ bs) (K : ∀ (h' : AH) (n' : Nat) (σ' : CS), n ≤ n' → LI L xs h' n' σ' (N + 12) → SW SR0 ML_law d (bc - 380) (bs - 4500) 1944 [(4, .int (nI i)), (3, .ref 158), (2, .ref 135), (1, .ref 100), (0, .ref 0)] [] h' n' Post) : SW SR0 ML_law d bc bs 1441 [(4, .int (nI i)), (3, .ref 158), (2, .ref 135), (1, .ref 100), (0, .ref 0)] [] h n Post := by
  obtain ⟨hR, ⟨th, hQ⟩, hT, hV, ⟨w, s, hO⟩, hs, hn⟩ := hI
  refine sw_aload_n (pc' := 1442) rfl dL_law_1441 rfl ?_
  refine sw_aload_n (pc' := 1443) rfl dL_law_1442 rfl ?_
  refine sw_iload (pc' := 1445) rfl dL_law_1443 rfl ?_
  refine sw_iconst (pc' := 1446) (v := 1) rfl dL_law_1445 (by decide +kernel) ?_
  refine sw_iadd (pc' := 1447) rfl dL_law_1446 ?_
  rw [show (nI i) + 1 = nI (i + 1) from nI_add _ _]
  refine sw_iald (j := i + 1) (pc' := 1448) rfl dL_law_1447 hs rfl (by omega) (by omega) ?_
  refine sw_aload_n (pc' := 1449) rfl dL_law_1448 rfl ?_
  refine sw_iload (pc' := 1451) rfl dL_law_1449 rfl ?_
  refine sw_iconst (pc' := 1452) (v := 2) rfl dL_law_1451 (by decide +kernel) ?_
  refine sw_iadd (pc' := 1453) rfl dL_law_1452 ?_
  rw [show (nI i) + 2 = nI (i + 2) from nI_add _ _]
  refine sw_iald (j := i + 2) (pc' := 1454) rfl dL_law_1453 hs rfl (by omega) (by omega) ?_
  refine sw_aload_n (pc' := 1455) rfl dL_law_1454 rfl ?_
  refine sw_S (M' := ML_has) (d' := d - 1) (bc' := 60) (bs' := 400) (as := [_, _, _, _]) dL_law_1455 w_1028 ok_L_has (L_has hR hT hV hN hO hn (by omega) (Nat.le_refl _) (Nat.le_refl _)) (by omega) (Nat.le_of_ble_eq_true rfl) (by omega) (by omega) (fun E h' n' _ z => lpo_x z) (lpo_k (fun p pn pw ps pk pR pO pv pF => ?_))
  refine sw_istore (pc' := 1460) (lv' := [(5, _), (4, _), (3, _), (2, _), (1, _), (0, _)]) rfl dL_law_1458 (by decide +kernel) rfl ?_
  refine sw_aload_n (pc' := 1461) rfl dL_law_1460 rfl ?_
  refine sw_aload_n (pc' := 1462) rfl dL_law_1461 rfl ?_
  refine sw_iload (pc' := 1464) rfl dL_law_1462 rfl ?_
  refine sw_iconst (pc' := 1465) (v := 1) rfl dL_law_1464 (by decide +kernel) ?_
  refine sw_iadd (pc' := 1466) rfl dL_law_1465 ?_
  rw [show (nI i) + 1 = nI (i + 1) from nI_add _ _]
  refine sw_iald (j := i + 1) (pc' := 1467) rfl dL_law_1466 ((pF 0 (by omega) (by omega) (by omega)).trans hs) rfl (by omega) (by omega) ?_
  refine sw_aload_n (pc' := 1468) rfl dL_law_1467 rfl ?_
  refine sw_iload (pc' := 1470) rfl dL_law_1468 rfl ?_
  refine sw_iconst (pc' := 1471) (v := 2) rfl dL_law_1470 (by decide +kernel) ?_
  refine sw_iadd (pc' := 1472) rfl dL_law_1471 ?_
  rw [show (nI i) + 2 = nI (i + 2) from nI_add _ _]
  refine sw_iald (j := i + 2) (pc' := 1473) rfl dL_law_1472 ((pF 0 (by omega) (by omega) (by omega)).trans hs) rfl (by omega) (by omega) ?_
  have hQ2 := hQ.fr (fun i a b => pF i (by omega) (by omega) (by omega))
  obtain ⟨ρ, τ, hM, hA⟩ := id hQ2
  refine sw_V (M' := MX5_has) (d' := d - 1) (bc' := 1) (bs' := 12) (ci := 6) (as := [_, _]) dL_law_1473 w_1417 ok_X5_has (q_has hQ2 (hV.iv hN) (by omega) (by omega) (Nat.le_refl _) (Nat.le_refl _)) hM.ob rfl (by omega) (Nat.le_of_ble_eq_true rfl) (by omega) (by omega) (fun E h' n' _ z => pmc_x z) (pmc_k ox_has (fun u un ub uk uv uR uF => ?_))
  refine sw_istore (pc' := 1478) (lv' := [(6, _), (5, _), (4, _), (3, _), (2, _), (1, _), (0, _)]) rfl dL_law_1476 (by decide +kernel) rfl ?_
  refine sw_goto (tgt := 1944) dL_law_1478 (by decide +kernel) ?_
  have J : LI L xs u un (opHas σ (xs (i + 1)) (xs (i + 2))).2 (N + 12) := ⟨pR.frT (fun i hi => uF i (by omega) (by omega)), ⟨_, uR⟩, hT.fr (fun i hi => (uF i (by omega) (by omega)).trans (pF i (by omega) (by omega) (by omega))), iv_has hV, ⟨_, _, (uF 158 (by omega) (by omega)).trans pO⟩, (uF 0 (by omega) (by omega)).trans ((pF 0 (by omega) (by omega) (by omega)).trans hs), by omega⟩
  exact SW.pick [2, 3, 4, 5, 6] rfl ((K u un _ (by omega) J).bud (by omega) (by omega))
theorem lc_31 {L : Nat} {xs : Nat → Int32} {h : AH} {n i N d bc bs : Nat} {σ : CS} {Post : ARes → AH → Nat → Prop} (hI : LI L xs h n σ N) (hN : N < 2 ^ 31) (hL : L ≤ 3072) (hi : i + 6 ≤ L) (hd : 20 ≤ d) (h1 : 380 ≤ bc) (h2 : 4500 ≤ bs) (K : ∀ (h' : AH) (n' : Nat) (σ' : CS), n ≤ n' → LI L xs h' n' σ' (N + 12) → SW SR0 ML_law d (bc - 380) (bs - 4500) 1944 [(4, .int (nI i)), (3, .ref 158), (2, .ref 135), (1, .ref 100), (0, .ref 0)] [] h' n' Post) : SW SR0 ML_law d bc bs 1481 [(4, .int (nI i)), (3, .ref 158), (2, .ref 135), (1, .ref 100), (0, .ref 0)] [] h n Post := by
  obtain ⟨hR, ⟨th, hQ⟩, hT, hV, ⟨w, s, hO⟩, hs, hn⟩ := hI
  refine sw_aload_n (pc' := 1482) rfl dL_law_1481 rfl ?_
  refine sw_aload_n (pc' := 1483) rfl dL_law_1482 rfl ?_
  refine sw_iload (pc' := 1485) rfl dL_law_1483 rfl ?_
  refine sw_iconst (pc' := 1486) (v := 1) rfl dL_law_1485 (by decide +kernel) ?_
  refine sw_iadd (pc' := 1487) rfl dL_law_1486 ?_
  rw [show (nI i) + 1 = nI (i + 1) from nI_add _ _]
  refine sw_iald (j := i + 1) (pc' := 1488) rfl dL_law_1487 hs rfl (by omega) (by omega) ?_
  refine sw_aload_n (pc' := 1489) rfl dL_law_1488 rfl ?_
  refine sw_iload (pc' := 1491) rfl dL_law_1489 rfl ?_
  refine sw_iconst (pc' := 1492) (v := 2) rfl dL_law_1491 (by decide +kernel) ?_
  refine sw_iadd (pc' := 1493) rfl dL_law_1492 ?_
  rw [show (nI i) + 2 = nI (i + 2) from nI_add _ _]
  refine sw_iald (j := i + 2) (pc' := 1494) rfl dL_law_1493 hs rfl (by omega) (by omega) ?_
  refine sw_aload_n (pc' := 1495) rfl dL_law_1494 rfl ?_
  refine sw_S (M' := ML_often) (d' := d - 1) (bc' := 60) (bs' := 400) (as := [_, _, _, _]) dL_law_1495 w_1035 ok_L_often (L_often hR hT hV hN hO hn (by omega) (Nat.le_refl _) (Nat.le_refl _)) (by omega) (Nat.le_of_ble_eq_true rfl) (by omega) (by omega) (fun E h' n' _ z => lpo_x z) (lpo_k (fun p pn pw ps pk pR pO pv pF => ?_))
  refine sw_istore (pc' := 1500) (lv' := [(5, _), (4, _), (3, _), (2, _), (1, _), (0, _)]) rfl dL_law_1498 (by decide +kernel) rfl ?_
  refine sw_aload_n (pc' := 1501) rfl dL_law_1500 rfl ?_
  refine sw_aload_n (pc' := 1502) rfl dL_law_1501 rfl ?_
  refine sw_iload (pc' := 1504) rfl dL_law_1502 rfl ?_
  refine sw_iconst (pc' := 1505) (v := 1) rfl dL_law_1504 (by decide +kernel) ?_
  refine sw_iadd (pc' := 1506) rfl dL_law_1505 ?_
  rw [show (nI i) + 1 = nI (i + 1) from nI_add _ _]
  refine sw_iald (j := i + 1) (pc' := 1507) rfl dL_law_1506 ((pF 0 (by omega) (by omega) (by omega)).trans hs) rfl (by omega) (by omega) ?_
  refine sw_aload_n (pc' := 1508) rfl dL_law_1507 rfl ?_
  refine sw_iload (pc' := 1510) rfl dL_law_1508 rfl ?_
  refine sw_iconst (pc' := 1511) (v := 2) rfl dL_law_1510 (by decide +kernel) ?_
  refine sw_iadd (pc' := 1512) rfl dL_law_1511 ?_
  rw [show (nI i) + 2 = nI (i + 2) from nI_add _ _]
  refine sw_iald (j := i + 2) (pc' := 1513) rfl dL_law_1512 ((pF 0 (by omega) (by omega) (by omega)).trans hs) rfl (by omega) (by omega) ?_
  have hQ2 := hQ.fr (fun i a b => pF i (by omega) (by omega) (by omega))
  obtain ⟨ρ, τ, hM, hA⟩ := id hQ2
  refine sw_V (M' := MX5_often) (d' := d - 1) (bc' := 1) (bs' := 12) (ci := 6) (as := [_, _]) dL_law_1513 w_1421 ok_X5_often (q_often hQ2 (hV.iv hN) (by omega) (by omega) (Nat.le_refl _) (Nat.le_refl _)) hM.ob rfl (by omega) (Nat.le_of_ble_eq_true rfl) (by omega) (by omega) (fun E h' n' _ z => pmc_x z) (pmc_k ox_often (fun u un ub uk uv uR uF => ?_))
  refine sw_istore (pc' := 1518) (lv' := [(6, _), (5, _), (4, _), (3, _), (2, _), (1, _), (0, _)]) rfl dL_law_1516 (by decide +kernel) rfl ?_
  refine sw_goto (tgt := 1944) dL_law_1518 (by decide +kernel) ?_
  have J : LI L xs u un (opOften σ (xs (i + 1)) (xs (i + 2))).2 (N + 12) := ⟨pR.frT (fun i hi => uF i (by omega) (by omega)), ⟨_, uR⟩, hT.fr (fun i hi => (uF i (by omega) (by omega)).trans (pF i (by omega) (by omega) (by omega))), iv_often hV, ⟨_, _, (uF 158 (by omega) (by omega)).trans pO⟩, (uF 0 (by omega) (by omega)).trans ((pF 0 (by omega) (by omega) (by omega)).trans hs), by omega⟩
  exact SW.pick [2, 3, 4, 5, 6] rfl ((K u un _ (by omega) J).bud (by omega) (by omega))
theorem lc_32 {L : Nat} {xs : Nat → Int32} {h : AH} {n i N d bc bs : Nat} {σ : CS} {Post : ARes → AH → Nat → Prop} (hI : LI L xs h n σ N) (hN : N < 2 ^ 31) (hL : L ≤ 3072) (hi : i + 6 ≤ L) (hd : 20 ≤ d) (h1 : 380 ≤ bc) (h2 : 4500 ≤ bs) (K : ∀ (h' : AH) (n' : Nat) (σ' : CS), n ≤ n' → LI L xs h' n' σ' (N + 12) → SW SR0 ML_law d (bc - 380) (bs - 4500) 1944 [(4, .int (nI i)), (3, .ref 158), (2, .ref 135), (1, .ref 100), (0, .ref 0)] [] h' n' Post) : SW SR0 ML_law d bc bs 1521 [(4, .int (nI i)), (3, .ref 158), (2, .ref 135), (1, .ref 100), (0, .ref 0)] [] h n Post := by
  obtain ⟨hR, ⟨th, hQ⟩, hT, hV, ⟨w, s, hO⟩, hs, hn⟩ := hI
  refine sw_aload_n (pc' := 1522) rfl dL_law_1521 rfl ?_
  refine sw_aload_n (pc' := 1523) rfl dL_law_1522 rfl ?_
  refine sw_iload (pc' := 1525) rfl dL_law_1523 rfl ?_
  refine sw_iconst (pc' := 1526) (v := 1) rfl dL_law_1525 (by decide +kernel) ?_
  refine sw_iadd (pc' := 1527) rfl dL_law_1526 ?_
  rw [show (nI i) + 1 = nI (i + 1) from nI_add _ _]
  refine sw_iald (j := i + 1) (pc' := 1528) rfl dL_law_1527 hs rfl (by omega) (by omega) ?_
  refine sw_aload_n (pc' := 1529) rfl dL_law_1528 rfl ?_
  refine sw_iload (pc' := 1531) rfl dL_law_1529 rfl ?_
  refine sw_iconst (pc' := 1532) (v := 2) rfl dL_law_1531 (by decide +kernel) ?_
  refine sw_iadd (pc' := 1533) rfl dL_law_1532 ?_
  rw [show (nI i) + 2 = nI (i + 2) from nI_add _ _]
  refine sw_iald (j := i + 2) (pc' := 1534) rfl dL_law_1533 hs rfl (by omega) (by omega) ?_
  refine sw_aload_n (pc' := 1535) rfl dL_law_1534 rfl ?_
  refine sw_iload (pc' := 1537) rfl dL_law_1535 rfl ?_
  refine sw_iconst (pc' := 1538) (v := 3) rfl dL_law_1537 (by decide +kernel) ?_
  refine sw_iadd (pc' := 1539) rfl dL_law_1538 ?_
  rw [show (nI i) + 3 = nI (i + 3) from nI_add _ _]
  refine sw_iald (j := i + 3) (pc' := 1540) rfl dL_law_1539 hs rfl (by omega) (by omega) ?_
  refine sw_if_eq (pc' := 1543) (tgt := 1547) rfl dL_law_1540 (by decide +kernel) (fun c1540 => ?_) (fun c1540 => ?_)
  · refine sw_iconst (pc' := 1548) (v := 0) rfl dL_law_1547 (by decide +kernel) ?_
    refine sw_aload_n (pc' := 1549) rfl dL_law_1548 rfl ?_
    refine sw_S (M' := ML_placeOf) (d' := d - 1) (bc' := 60) (bs' := 400) (as := [_, _, _, _, _]) dL_law_1549 w_1042 ok_L_placeOf (L_placeOf hR hT hV hN hO hn (by omega) (Nat.le_refl _) (Nat.le_refl _)) (by omega) (Nat.le_of_ble_eq_true rfl) (by omega) (by omega) (fun E h' n' _ z => lpo_x z) (lpo_k (fun p pn pw ps pk pR pO pv pF => ?_))
    refine sw_istore (pc' := 1554) (lv' := [(5, _), (4, _), (3, _), (2, _), (1, _), (0, _)]) rfl dL_law_1552 (by decide +kernel) rfl ?_
    refine sw_aload_n (pc' := 1555) rfl dL_law_1554 rfl ?_
    refine sw_aload_n (pc' := 1556) rfl dL_law_1555 rfl ?_
    refine sw_iload (pc' := 1558) rfl dL_law_1556 rfl ?_
    refine sw_iconst (pc' := 1559) (v := 1) rfl dL_law_1558 (by decide +kernel) ?_
    refine sw_iadd (pc' := 1560) rfl dL_law_1559 ?_
    rw [show (nI i) + 1 = nI (i + 1) from nI_add _ _]
    refine sw_iald (j := i + 1) (pc' := 1561) rfl dL_law_1560 ((pF 0 (by omega) (by omega) (by omega)).trans hs) rfl (by omega) (by omega) ?_
    refine sw_aload_n (pc' := 1562) rfl dL_law_1561 rfl ?_
    refine sw_iload (pc' := 1564) rfl dL_law_1562 rfl ?_
    refine sw_iconst (pc' := 1565) (v := 2) rfl dL_law_1564 (by decide +kernel) ?_
    refine sw_iadd (pc' := 1566) rfl dL_law_1565 ?_
    rw [show (nI i) + 2 = nI (i + 2) from nI_add _ _]
    refine sw_iald (j := i + 2) (pc' := 1567) rfl dL_law_1566 ((pF 0 (by omega) (by omega) (by omega)).trans hs) rfl (by omega) (by omega) ?_
    refine sw_aload_n (pc' := 1568) rfl dL_law_1567 rfl ?_
    refine sw_iload (pc' := 1570) rfl dL_law_1568 rfl ?_
    refine sw_iconst (pc' := 1571) (v := 3) rfl dL_law_1570 (by decide +kernel) ?_
    refine sw_iadd (pc' := 1572) rfl dL_law_1571 ?_
    rw [show (nI i) + 3 = nI (i + 3) from nI_add _ _]
    refine sw_iald (j := i + 3) (pc' := 1573) rfl dL_law_1572 ((pF 0 (by omega) (by omega) (by omega)).trans hs) rfl (by omega) (by omega) ?_
    refine sw_if_eq (pc' := 1576) (tgt := 1580) rfl dL_law_1573 (by decide +kernel) (fun c1573 => ?_) (fun c1573 => ?_)
    · refine sw_iconst (pc' := 1581) (v := 0) rfl dL_law_1580 (by decide +kernel) ?_
      have hQ2 := hQ.fr (fun i a b => pF i (by omega) (by omega) (by omega))
      obtain ⟨ρ, τ, hM, hA⟩ := id hQ2
      refine sw_V (M' := MX5_placeOf) (d' := d - 1) (bc' := 1) (bs' := 12) (ci := 6) (as := [_, _, _]) dL_law_1581 w_1425 ok_X5_placeOf (q_placeOf hQ2 (hV.iv hN) (by omega) (by omega) (Nat.le_refl _) (Nat.le_refl _)) hM.ob rfl (by omega) (Nat.le_of_ble_eq_true rfl) (by omega) (by omega) (fun E h' n' _ z => pmc_x z) (pmc_k ox_placeOf (fun u un ub uk uv uR uF => ?_))
      refine sw_istore (pc' := 1586) (lv' := [(6, _), (5, _), (4, _), (3, _), (2, _), (1, _), (0, _)]) rfl dL_law_1584 (by decide +kernel) rfl ?_
      refine sw_goto (tgt := 1944) dL_law_1586 (by decide +kernel) ?_
      have J : LI L xs u un (opPlaceOf σ (xs (i + 1)) (xs (i + 2)) 0).2 (N + 12) := ⟨pR.frT (fun i hi => uF i (by omega) (by omega)), ⟨_, uR⟩, hT.fr (fun i hi => (uF i (by omega) (by omega)).trans (pF i (by omega) (by omega) (by omega))), iv_placeOf hV, ⟨_, _, (uF 158 (by omega) (by omega)).trans pO⟩, (uF 0 (by omega) (by omega)).trans ((pF 0 (by omega) (by omega) (by omega)).trans hs), by omega⟩
      exact SW.pick [2, 3, 4, 5, 6] rfl ((K u un _ (by omega) J).bud (by omega) (by omega))
    · exact absurd c1540 c1573
  · refine sw_iconst (pc' := 1544) (v := 1) rfl dL_law_1543 (by decide +kernel) ?_
    refine sw_goto (tgt := 1548) dL_law_1544 (by decide +kernel) ?_
    refine sw_aload_n (pc' := 1549) rfl dL_law_1548 rfl ?_
    refine sw_S (M' := ML_placeOf) (d' := d - 1) (bc' := 60) (bs' := 400) (as := [_, _, _, _, _]) dL_law_1549 w_1042 ok_L_placeOf (L_placeOf hR hT hV hN hO hn (by omega) (Nat.le_refl _) (Nat.le_refl _)) (by omega) (Nat.le_of_ble_eq_true rfl) (by omega) (by omega) (fun E h' n' _ z => lpo_x z) (lpo_k (fun p pn pw ps pk pR pO pv pF => ?_))
    refine sw_istore (pc' := 1554) (lv' := [(5, _), (4, _), (3, _), (2, _), (1, _), (0, _)]) rfl dL_law_1552 (by decide +kernel) rfl ?_
    refine sw_aload_n (pc' := 1555) rfl dL_law_1554 rfl ?_
    refine sw_aload_n (pc' := 1556) rfl dL_law_1555 rfl ?_
    refine sw_iload (pc' := 1558) rfl dL_law_1556 rfl ?_
    refine sw_iconst (pc' := 1559) (v := 1) rfl dL_law_1558 (by decide +kernel) ?_
    refine sw_iadd (pc' := 1560) rfl dL_law_1559 ?_
    rw [show (nI i) + 1 = nI (i + 1) from nI_add _ _]
    refine sw_iald (j := i + 1) (pc' := 1561) rfl dL_law_1560 ((pF 0 (by omega) (by omega) (by omega)).trans hs) rfl (by omega) (by omega) ?_
    refine sw_aload_n (pc' := 1562) rfl dL_law_1561 rfl ?_
    refine sw_iload (pc' := 1564) rfl dL_law_1562 rfl ?_
    refine sw_iconst (pc' := 1565) (v := 2) rfl dL_law_1564 (by decide +kernel) ?_
    refine sw_iadd (pc' := 1566) rfl dL_law_1565 ?_
    rw [show (nI i) + 2 = nI (i + 2) from nI_add _ _]
    refine sw_iald (j := i + 2) (pc' := 1567) rfl dL_law_1566 ((pF 0 (by omega) (by omega) (by omega)).trans hs) rfl (by omega) (by omega) ?_
    refine sw_aload_n (pc' := 1568) rfl dL_law_1567 rfl ?_
    refine sw_iload (pc' := 1570) rfl dL_law_1568 rfl ?_
    refine sw_iconst (pc' := 1571) (v := 3) rfl dL_law_1570 (by decide +kernel) ?_
    refine sw_iadd (pc' := 1572) rfl dL_law_1571 ?_
    rw [show (nI i) + 3 = nI (i + 3) from nI_add _ _]
    refine sw_iald (j := i + 3) (pc' := 1573) rfl dL_law_1572 ((pF 0 (by omega) (by omega) (by omega)).trans hs) rfl (by omega) (by omega) ?_
    refine sw_if_eq (pc' := 1576) (tgt := 1580) rfl dL_law_1573 (by decide +kernel) (fun c1573 => ?_) (fun c1573 => ?_)
    · exact absurd c1573 c1540
    · refine sw_iconst (pc' := 1577) (v := 1) rfl dL_law_1576 (by decide +kernel) ?_
      refine sw_goto (tgt := 1581) dL_law_1577 (by decide +kernel) ?_
      have hQ2 := hQ.fr (fun i a b => pF i (by omega) (by omega) (by omega))
      obtain ⟨ρ, τ, hM, hA⟩ := id hQ2
      refine sw_V (M' := MX5_placeOf) (d' := d - 1) (bc' := 1) (bs' := 12) (ci := 6) (as := [_, _, _]) dL_law_1581 w_1425 ok_X5_placeOf (q_placeOf hQ2 (hV.iv hN) (by omega) (by omega) (Nat.le_refl _) (Nat.le_refl _)) hM.ob rfl (by omega) (Nat.le_of_ble_eq_true rfl) (by omega) (by omega) (fun E h' n' _ z => pmc_x z) (pmc_k ox_placeOf (fun u un ub uk uv uR uF => ?_))
      refine sw_istore (pc' := 1586) (lv' := [(6, _), (5, _), (4, _), (3, _), (2, _), (1, _), (0, _)]) rfl dL_law_1584 (by decide +kernel) rfl ?_
      refine sw_goto (tgt := 1944) dL_law_1586 (by decide +kernel) ?_
      have J : LI L xs u un (opPlaceOf σ (xs (i + 1)) (xs (i + 2)) 1).2 (N + 12) := ⟨pR.frT (fun i hi => uF i (by omega) (by omega)), ⟨_, uR⟩, hT.fr (fun i hi => (uF i (by omega) (by omega)).trans (pF i (by omega) (by omega) (by omega))), iv_placeOf hV, ⟨_, _, (uF 158 (by omega) (by omega)).trans pO⟩, (uF 0 (by omega) (by omega)).trans ((pF 0 (by omega) (by omega) (by omega)).trans hs), by omega⟩
      exact SW.pick [2, 3, 4, 5, 6] rfl ((K u un _ (by omega) J).bud (by omega) (by omega))
theorem lc_33 {L : Nat} {xs : Nat → Int32} {h : AH} {n i N d bc bs : Nat} {σ : CS} {Post : ARes → AH → Nat → Prop} (hI : LI L xs h n σ N) (hN : N < 2 ^ 31) (hL : L ≤ 3072) (hi : i + 6 ≤ L) (hd : 20 ≤ d) (h1 : 380 ≤ bc) (h2 : 4500 ≤ bs) (K : ∀ (h' : AH) (n' : Nat) (σ' : CS), n ≤ n' → LI L xs h' n' σ' (N + 12) → SW SR0 ML_law d (bc - 380) (bs - 4500) 1944 [(4, .int (nI i)), (3, .ref 158), (2, .ref 135), (1, .ref 100), (0, .ref 0)] [] h' n' Post) : SW SR0 ML_law d bc bs 1589 [(4, .int (nI i)), (3, .ref 158), (2, .ref 135), (1, .ref 100), (0, .ref 0)] [] h n Post := by
  obtain ⟨hR, ⟨th, hQ⟩, hT, hV, ⟨w, s, hO⟩, hs, hn⟩ := hI
  refine sw_aload_n (pc' := 1590) rfl dL_law_1589 rfl ?_
  refine sw_aload_n (pc' := 1591) rfl dL_law_1590 rfl ?_
  refine sw_iload (pc' := 1593) rfl dL_law_1591 rfl ?_
  refine sw_iconst (pc' := 1594) (v := 1) rfl dL_law_1593 (by decide +kernel) ?_
  refine sw_iadd (pc' := 1595) rfl dL_law_1594 ?_
  rw [show (nI i) + 1 = nI (i + 1) from nI_add _ _]
  refine sw_iald (j := i + 1) (pc' := 1596) rfl dL_law_1595 hs rfl (by omega) (by omega) ?_
  refine sw_aload_n (pc' := 1597) rfl dL_law_1596 rfl ?_
  refine sw_iload (pc' := 1599) rfl dL_law_1597 rfl ?_
  refine sw_iconst (pc' := 1600) (v := 2) rfl dL_law_1599 (by decide +kernel) ?_
  refine sw_iadd (pc' := 1601) rfl dL_law_1600 ?_
  rw [show (nI i) + 2 = nI (i + 2) from nI_add _ _]
  refine sw_iald (j := i + 2) (pc' := 1602) rfl dL_law_1601 hs rfl (by omega) (by omega) ?_
  refine sw_aload_n (pc' := 1603) rfl dL_law_1602 rfl ?_
  refine sw_S (M' := ML_disjoint) (d' := d - 1) (bc' := 60) (bs' := 400) (as := [_, _, _, _]) dL_law_1603 w_1053 ok_L_disjoint (L_disjoint hR hT hV hN hO hn (by omega) (Nat.le_refl _) (Nat.le_refl _)) (by omega) (Nat.le_of_ble_eq_true rfl) (by omega) (by omega) (fun E h' n' _ z => lpo_x z) (lpo_k (fun p pn pw ps pk pR pO pv pF => ?_))
  refine sw_istore (pc' := 1608) (lv' := [(5, _), (4, _), (3, _), (2, _), (1, _), (0, _)]) rfl dL_law_1606 (by decide +kernel) rfl ?_
  refine sw_aload_n (pc' := 1609) rfl dL_law_1608 rfl ?_
  refine sw_aload_n (pc' := 1610) rfl dL_law_1609 rfl ?_
  refine sw_iload (pc' := 1612) rfl dL_law_1610 rfl ?_
  refine sw_iconst (pc' := 1613) (v := 1) rfl dL_law_1612 (by decide +kernel) ?_
  refine sw_iadd (pc' := 1614) rfl dL_law_1613 ?_
  rw [show (nI i) + 1 = nI (i + 1) from nI_add _ _]
  refine sw_iald (j := i + 1) (pc' := 1615) rfl dL_law_1614 ((pF 0 (by omega) (by omega) (by omega)).trans hs) rfl (by omega) (by omega) ?_
  refine sw_aload_n (pc' := 1616) rfl dL_law_1615 rfl ?_
  refine sw_iload (pc' := 1618) rfl dL_law_1616 rfl ?_
  refine sw_iconst (pc' := 1619) (v := 2) rfl dL_law_1618 (by decide +kernel) ?_
  refine sw_iadd (pc' := 1620) rfl dL_law_1619 ?_
  rw [show (nI i) + 2 = nI (i + 2) from nI_add _ _]
  refine sw_iald (j := i + 2) (pc' := 1621) rfl dL_law_1620 ((pF 0 (by omega) (by omega) (by omega)).trans hs) rfl (by omega) (by omega) ?_
  have hQ2 := hQ.fr (fun i a b => pF i (by omega) (by omega) (by omega))
  obtain ⟨ρ, τ, hM, hA⟩ := id hQ2
  refine sw_V (M' := MX5_disjoint) (d' := d - 1) (bc' := 1) (bs' := 12) (ci := 6) (as := [_, _]) dL_law_1621 w_1429 ok_X5_disjoint (q_disjoint hQ2 (hV.iv hN) (by omega) (by omega) (Nat.le_refl _) (Nat.le_refl _)) hM.ob rfl (by omega) (Nat.le_of_ble_eq_true rfl) (by omega) (by omega) (fun E h' n' _ z => pmc_x z) (pmc_k ox_disjoint (fun u un ub uk uv uR uF => ?_))
  refine sw_istore (pc' := 1626) (lv' := [(6, _), (5, _), (4, _), (3, _), (2, _), (1, _), (0, _)]) rfl dL_law_1624 (by decide +kernel) rfl ?_
  refine sw_goto (tgt := 1944) dL_law_1626 (by decide +kernel) ?_
  have J : LI L xs u un (opDisjoint σ (xs (i + 1)) (xs (i + 2))).2 (N + 12) := ⟨pR.frT (fun i hi => uF i (by omega) (by omega)), ⟨_, uR⟩, hT.fr (fun i hi => (uF i (by omega) (by omega)).trans (pF i (by omega) (by omega) (by omega))), iv_disjoint hV, ⟨_, _, (uF 158 (by omega) (by omega)).trans pO⟩, (uF 0 (by omega) (by omega)).trans ((pF 0 (by omega) (by omega) (by omega)).trans hs), by omega⟩
  exact SW.pick [2, 3, 4, 5, 6] rfl ((K u un _ (by omega) J).bud (by omega) (by omega))
theorem lc_34 {L : Nat} {xs : Nat → Int32} {h : AH} {n i N d bc bs : Nat} {σ : CS} {Post : ARes → AH → Nat → Prop} (hI : LI L xs h n σ N) (hN : N < 2 ^ 31) (hL : L ≤ 3072) (hi : i + 6 ≤ L) (hd : 20 ≤ d) (h1 : 380 ≤ bc) (h2 : 4500 ≤ bs) (K : ∀ (h' : AH) (n' : Nat) (σ' : CS), n ≤ n' → LI L xs h' n' σ' (N + 12) → SW SR0 ML_law d (bc - 380) (bs - 4500) 1944 [(4, .int (nI i)), (3, .ref 158), (2, .ref 135), (1, .ref 100), (0, .ref 0)] [] h' n' Post) : SW SR0 ML_law d bc bs 1629 [(4, .int (nI i)), (3, .ref 158), (2, .ref 135), (1, .ref 100), (0, .ref 0)] [] h n Post := by
  obtain ⟨hR, ⟨th, hQ⟩, hT, hV, ⟨w, s, hO⟩, hs, hn⟩ := hI
  refine sw_aload_n (pc' := 1630) rfl dL_law_1629 rfl ?_
  refine sw_aload_n (pc' := 1631) rfl dL_law_1630 rfl ?_
  refine sw_iload (pc' := 1633) rfl dL_law_1631 rfl ?_
  refine sw_iconst (pc' := 1634) (v := 1) rfl dL_law_1633 (by decide +kernel) ?_
  refine sw_iadd (pc' := 1635) rfl dL_law_1634 ?_
  rw [show (nI i) + 1 = nI (i + 1) from nI_add _ _]
  refine sw_iald (j := i + 1) (pc' := 1636) rfl dL_law_1635 hs rfl (by omega) (by omega) ?_
  refine sw_aload_n (pc' := 1637) rfl dL_law_1636 rfl ?_
  refine sw_iload (pc' := 1639) rfl dL_law_1637 rfl ?_
  refine sw_iconst (pc' := 1640) (v := 2) rfl dL_law_1639 (by decide +kernel) ?_
  refine sw_iadd (pc' := 1641) rfl dL_law_1640 ?_
  rw [show (nI i) + 2 = nI (i + 2) from nI_add _ _]
  refine sw_iald (j := i + 2) (pc' := 1642) rfl dL_law_1641 hs rfl (by omega) (by omega) ?_
  refine sw_if_eq (pc' := 1645) (tgt := 1649) rfl dL_law_1642 (by decide +kernel) (fun c1642 => ?_) (fun c1642 => ?_)
  · refine sw_iconst (pc' := 1650) (v := 0) rfl dL_law_1649 (by decide +kernel) ?_
    refine sw_aload_n (pc' := 1651) rfl dL_law_1650 rfl ?_
    refine sw_S (M' := ML_end) (d' := d - 1) (bc' := 60) (bs' := 400) (as := [_, _, _, _]) dL_law_1651 w_1060 ok_L_end (L_end hR hT hV hN hO hn (by omega) (Nat.le_refl _) (Nat.le_refl _)) (by omega) (Nat.le_of_ble_eq_true rfl) (by omega) (by omega) (fun E h' n' _ z => lpo_x z) (lpo_k (fun p pn pw ps pk pR pO pv pF => ?_))
    refine sw_istore (pc' := 1656) (lv' := [(5, _), (4, _), (3, _), (2, _), (1, _), (0, _)]) rfl dL_law_1654 (by decide +kernel) rfl ?_
    refine sw_aload_n (pc' := 1657) rfl dL_law_1656 rfl ?_
    refine sw_aload_n (pc' := 1658) rfl dL_law_1657 rfl ?_
    refine sw_iload (pc' := 1660) rfl dL_law_1658 rfl ?_
    refine sw_iconst (pc' := 1661) (v := 1) rfl dL_law_1660 (by decide +kernel) ?_
    refine sw_iadd (pc' := 1662) rfl dL_law_1661 ?_
    rw [show (nI i) + 1 = nI (i + 1) from nI_add _ _]
    refine sw_iald (j := i + 1) (pc' := 1663) rfl dL_law_1662 ((pF 0 (by omega) (by omega) (by omega)).trans hs) rfl (by omega) (by omega) ?_
    refine sw_aload_n (pc' := 1664) rfl dL_law_1663 rfl ?_
    refine sw_iload (pc' := 1666) rfl dL_law_1664 rfl ?_
    refine sw_iconst (pc' := 1667) (v := 2) rfl dL_law_1666 (by decide +kernel) ?_
    refine sw_iadd (pc' := 1668) rfl dL_law_1667 ?_
    rw [show (nI i) + 2 = nI (i + 2) from nI_add _ _]
    refine sw_iald (j := i + 2) (pc' := 1669) rfl dL_law_1668 ((pF 0 (by omega) (by omega) (by omega)).trans hs) rfl (by omega) (by omega) ?_
    refine sw_if_eq (pc' := 1672) (tgt := 1676) rfl dL_law_1669 (by decide +kernel) (fun c1669 => ?_) (fun c1669 => ?_)
    · refine sw_iconst (pc' := 1677) (v := 0) rfl dL_law_1676 (by decide +kernel) ?_
      have hQ2 := hQ.fr (fun i a b => pF i (by omega) (by omega) (by omega))
      obtain ⟨ρ, τ, hM, hA⟩ := id hQ2
      refine sw_V (M' := MX5_end) (d' := d - 1) (bc' := 1) (bs' := 12) (ci := 6) (as := [_, _]) dL_law_1677 w_1433 ok_X5_end (q_end hQ2 (hV.iv hN) (by omega) (by omega) (Nat.le_refl _) (Nat.le_refl _)) hM.ob rfl (by omega) (Nat.le_of_ble_eq_true rfl) (by omega) (by omega) (fun E h' n' _ z => pmc_x z) (pmc_k ox_end (fun u un ub uk uv uR uF => ?_))
      refine sw_istore (pc' := 1682) (lv' := [(6, _), (5, _), (4, _), (3, _), (2, _), (1, _), (0, _)]) rfl dL_law_1680 (by decide +kernel) rfl ?_
      refine sw_goto (tgt := 1944) dL_law_1682 (by decide +kernel) ?_
      have J : LI L xs u un (opEnd σ (xs (i + 1)) 0).2 (N + 12) := ⟨pR.frT (fun i hi => uF i (by omega) (by omega)), ⟨_, uR⟩, hT.fr (fun i hi => (uF i (by omega) (by omega)).trans (pF i (by omega) (by omega) (by omega))), iv_end hV, ⟨_, _, (uF 158 (by omega) (by omega)).trans pO⟩, (uF 0 (by omega) (by omega)).trans ((pF 0 (by omega) (by omega) (by omega)).trans hs), by omega⟩
      exact SW.pick [2, 3, 4, 5, 6] rfl ((K u un _ (by omega) J).bud (by omega) (by omega))
    · exact absurd c1642 c1669
  · refine sw_iconst (pc' := 1646) (v := 1) rfl dL_law_1645 (by decide +kernel) ?_
    refine sw_goto (tgt := 1650) dL_law_1646 (by decide +kernel) ?_
    refine sw_aload_n (pc' := 1651) rfl dL_law_1650 rfl ?_
    refine sw_S (M' := ML_end) (d' := d - 1) (bc' := 60) (bs' := 400) (as := [_, _, _, _]) dL_law_1651 w_1060 ok_L_end (L_end hR hT hV hN hO hn (by omega) (Nat.le_refl _) (Nat.le_refl _)) (by omega) (Nat.le_of_ble_eq_true rfl) (by omega) (by omega) (fun E h' n' _ z => lpo_x z) (lpo_k (fun p pn pw ps pk pR pO pv pF => ?_))
    refine sw_istore (pc' := 1656) (lv' := [(5, _), (4, _), (3, _), (2, _), (1, _), (0, _)]) rfl dL_law_1654 (by decide +kernel) rfl ?_
    refine sw_aload_n (pc' := 1657) rfl dL_law_1656 rfl ?_
    refine sw_aload_n (pc' := 1658) rfl dL_law_1657 rfl ?_
    refine sw_iload (pc' := 1660) rfl dL_law_1658 rfl ?_
    refine sw_iconst (pc' := 1661) (v := 1) rfl dL_law_1660 (by decide +kernel) ?_
    refine sw_iadd (pc' := 1662) rfl dL_law_1661 ?_
    rw [show (nI i) + 1 = nI (i + 1) from nI_add _ _]
    refine sw_iald (j := i + 1) (pc' := 1663) rfl dL_law_1662 ((pF 0 (by omega) (by omega) (by omega)).trans hs) rfl (by omega) (by omega) ?_
    refine sw_aload_n (pc' := 1664) rfl dL_law_1663 rfl ?_
    refine sw_iload (pc' := 1666) rfl dL_law_1664 rfl ?_
    refine sw_iconst (pc' := 1667) (v := 2) rfl dL_law_1666 (by decide +kernel) ?_
    refine sw_iadd (pc' := 1668) rfl dL_law_1667 ?_
    rw [show (nI i) + 2 = nI (i + 2) from nI_add _ _]
    refine sw_iald (j := i + 2) (pc' := 1669) rfl dL_law_1668 ((pF 0 (by omega) (by omega) (by omega)).trans hs) rfl (by omega) (by omega) ?_
    refine sw_if_eq (pc' := 1672) (tgt := 1676) rfl dL_law_1669 (by decide +kernel) (fun c1669 => ?_) (fun c1669 => ?_)
    · exact absurd c1669 c1642
    · refine sw_iconst (pc' := 1673) (v := 1) rfl dL_law_1672 (by decide +kernel) ?_
      refine sw_goto (tgt := 1677) dL_law_1673 (by decide +kernel) ?_
      have hQ2 := hQ.fr (fun i a b => pF i (by omega) (by omega) (by omega))
      obtain ⟨ρ, τ, hM, hA⟩ := id hQ2
      refine sw_V (M' := MX5_end) (d' := d - 1) (bc' := 1) (bs' := 12) (ci := 6) (as := [_, _]) dL_law_1677 w_1433 ok_X5_end (q_end hQ2 (hV.iv hN) (by omega) (by omega) (Nat.le_refl _) (Nat.le_refl _)) hM.ob rfl (by omega) (Nat.le_of_ble_eq_true rfl) (by omega) (by omega) (fun E h' n' _ z => pmc_x z) (pmc_k ox_end (fun u un ub uk uv uR uF => ?_))
      refine sw_istore (pc' := 1682) (lv' := [(6, _), (5, _), (4, _), (3, _), (2, _), (1, _), (0, _)]) rfl dL_law_1680 (by decide +kernel) rfl ?_
      refine sw_goto (tgt := 1944) dL_law_1682 (by decide +kernel) ?_
      have J : LI L xs u un (opEnd σ (xs (i + 1)) 1).2 (N + 12) := ⟨pR.frT (fun i hi => uF i (by omega) (by omega)), ⟨_, uR⟩, hT.fr (fun i hi => (uF i (by omega) (by omega)).trans (pF i (by omega) (by omega) (by omega))), iv_end hV, ⟨_, _, (uF 158 (by omega) (by omega)).trans pO⟩, (uF 0 (by omega) (by omega)).trans ((pF 0 (by omega) (by omega) (by omega)).trans hs), by omega⟩
      exact SW.pick [2, 3, 4, 5, 6] rfl ((K u un _ (by omega) J).bud (by omega) (by omega))
theorem lc_35 {L : Nat} {xs : Nat → Int32} {h : AH} {n i N d bc bs : Nat} {σ : CS} {Post : ARes → AH → Nat → Prop} (hI : LI L xs h n σ N) (hN : N < 2 ^ 31) (hL : L ≤ 3072) (hi : i + 6 ≤ L) (hd : 20 ≤ d) (h1 : 380 ≤ bc) (h2 : 4500 ≤ bs) (K : ∀ (h' : AH) (n' : Nat) (σ' : CS), n ≤ n' → LI L xs h' n' σ' (N + 12) → SW SR0 ML_law d (bc - 380) (bs - 4500) 1944 [(4, .int (nI i)), (3, .ref 158), (2, .ref 135), (1, .ref 100), (0, .ref 0)] [] h' n' Post) : SW SR0 ML_law d bc bs 1685 [(4, .int (nI i)), (3, .ref 158), (2, .ref 135), (1, .ref 100), (0, .ref 0)] [] h n Post := by
  obtain ⟨hR, ⟨th, hQ⟩, hT, hV, ⟨w, s, hO⟩, hs, hn⟩ := hI
  refine sw_aload_n (pc' := 1686) rfl dL_law_1685 rfl ?_
  refine sw_aload_n (pc' := 1687) rfl dL_law_1686 rfl ?_
  refine sw_iload (pc' := 1689) rfl dL_law_1687 rfl ?_
  refine sw_iconst (pc' := 1690) (v := 1) rfl dL_law_1689 (by decide +kernel) ?_
  refine sw_iadd (pc' := 1691) rfl dL_law_1690 ?_
  rw [show (nI i) + 1 = nI (i + 1) from nI_add _ _]
  refine sw_iald (j := i + 1) (pc' := 1692) rfl dL_law_1691 hs rfl (by omega) (by omega) ?_
  refine sw_aload_n (pc' := 1693) rfl dL_law_1692 rfl ?_
  refine sw_S (M' := ML_code) (d' := d - 1) (bc' := 60) (bs' := 400) (as := [_, _, _]) dL_law_1693 w_1069 ok_L_code (L_code hR hT hV hN hO hn (by omega) (Nat.le_refl _) (Nat.le_refl _)) (by omega) (Nat.le_of_ble_eq_true rfl) (by omega) (by omega) (fun E h' n' _ z => lpo_x z) (lpo_k (fun p pn pw ps pk pR pO pv pF => ?_))
  refine sw_istore (pc' := 1698) (lv' := [(5, _), (4, _), (3, _), (2, _), (1, _), (0, _)]) rfl dL_law_1696 (by decide +kernel) rfl ?_
  refine sw_aload_n (pc' := 1699) rfl dL_law_1698 rfl ?_
  refine sw_aload_n (pc' := 1700) rfl dL_law_1699 rfl ?_
  refine sw_iload (pc' := 1702) rfl dL_law_1700 rfl ?_
  refine sw_iconst (pc' := 1703) (v := 1) rfl dL_law_1702 (by decide +kernel) ?_
  refine sw_iadd (pc' := 1704) rfl dL_law_1703 ?_
  rw [show (nI i) + 1 = nI (i + 1) from nI_add _ _]
  refine sw_iald (j := i + 1) (pc' := 1705) rfl dL_law_1704 ((pF 0 (by omega) (by omega) (by omega)).trans hs) rfl (by omega) (by omega) ?_
  have hQ2 := hQ.fr (fun i a b => pF i (by omega) (by omega) (by omega))
  obtain ⟨ρ, τ, hM, hA⟩ := id hQ2
  refine sw_V (M' := MX5_code) (d' := d - 1) (bc' := 1) (bs' := 12) (ci := 6) (as := [_]) dL_law_1705 w_1439 ok_X5_code (q_code hQ2 (hV.iv hN) (by omega) (by omega) (Nat.le_refl _) (Nat.le_refl _)) hM.ob rfl (by omega) (Nat.le_of_ble_eq_true rfl) (by omega) (by omega) (fun E h' n' _ z => pmc_x z) (pmc_k ox_code (fun u un ub uk uv uR uF => ?_))
  refine sw_istore (pc' := 1710) (lv' := [(6, _), (5, _), (4, _), (3, _), (2, _), (1, _), (0, _)]) rfl dL_law_1708 (by decide +kernel) rfl ?_
  refine sw_goto (tgt := 1944) dL_law_1710 (by decide +kernel) ?_
  have J : LI L xs u un (opCode σ (xs (i + 1))).2 (N + 12) := ⟨pR.frT (fun i hi => uF i (by omega) (by omega)), ⟨_, uR⟩, hT.fr (fun i hi => (uF i (by omega) (by omega)).trans (pF i (by omega) (by omega) (by omega))), iv_code hV, ⟨_, _, (uF 158 (by omega) (by omega)).trans pO⟩, (uF 0 (by omega) (by omega)).trans ((pF 0 (by omega) (by omega) (by omega)).trans hs), by omega⟩
  exact SW.pick [2, 3, 4, 5, 6] rfl ((K u un _ (by omega) J).bud (by omega) (by omega))
theorem lc_36 {L : Nat} {xs : Nat → Int32} {h : AH} {n i N d bc bs : Nat} {σ : CS} {Post : ARes → AH → Nat → Prop} (hI : LI L xs h n σ N) (hN : N < 2 ^ 31) (hL : L ≤ 3072) (hi : i + 6 ≤ L) (hd : 20 ≤ d) (h1 : 380 ≤ bc) (h2 : 4500 ≤ bs) (K : ∀ (h' : AH) (n' : Nat) (σ' : CS), n ≤ n' → LI L xs h' n' σ' (N + 12) → SW SR0 ML_law d (bc - 380) (bs - 4500) 1944 [(4, .int (nI i)), (3, .ref 158), (2, .ref 135), (1, .ref 100), (0, .ref 0)] [] h' n' Post) : SW SR0 ML_law d bc bs 1713 [(4, .int (nI i)), (3, .ref 158), (2, .ref 135), (1, .ref 100), (0, .ref 0)] [] h n Post := by
  obtain ⟨hR, ⟨th, hQ⟩, hT, hV, ⟨w, s, hO⟩, hs, hn⟩ := hI
  refine sw_aload_n (pc' := 1714) rfl dL_law_1713 rfl ?_
  refine sw_aload_n (pc' := 1715) rfl dL_law_1714 rfl ?_
  refine sw_iload (pc' := 1717) rfl dL_law_1715 rfl ?_
  refine sw_iconst (pc' := 1718) (v := 1) rfl dL_law_1717 (by decide +kernel) ?_
  refine sw_iadd (pc' := 1719) rfl dL_law_1718 ?_
  rw [show (nI i) + 1 = nI (i + 1) from nI_add _ _]
  refine sw_iald (j := i + 1) (pc' := 1720) rfl dL_law_1719 hs rfl (by omega) (by omega) ?_
  refine sw_aload_n (pc' := 1721) rfl dL_law_1720 rfl ?_
  refine sw_iload (pc' := 1723) rfl dL_law_1721 rfl ?_
  refine sw_iconst (pc' := 1724) (v := 2) rfl dL_law_1723 (by decide +kernel) ?_
  refine sw_iadd (pc' := 1725) rfl dL_law_1724 ?_
  rw [show (nI i) + 2 = nI (i + 2) from nI_add _ _]
  refine sw_iald (j := i + 2) (pc' := 1726) rfl dL_law_1725 hs rfl (by omega) (by omega) ?_
  refine sw_aload_n (pc' := 1727) rfl dL_law_1726 rfl ?_
  refine sw_S (M' := ML_areAlike) (d' := d - 1) (bc' := 60) (bs' := 400) (as := [_, _, _, _]) dL_law_1727 w_1076 ok_L_areAlike (L_areAlike hR hT hV hN hO hn (by omega) (Nat.le_refl _) (Nat.le_refl _)) (by omega) (Nat.le_of_ble_eq_true rfl) (by omega) (by omega) (fun E h' n' _ z => lpo_x z) (lpo_k (fun p pn pw ps pk pR pO pv pF => ?_))
  refine sw_istore (pc' := 1732) (lv' := [(5, _), (4, _), (3, _), (2, _), (1, _), (0, _)]) rfl dL_law_1730 (by decide +kernel) rfl ?_
  refine sw_aload_n (pc' := 1733) rfl dL_law_1732 rfl ?_
  refine sw_aload_n (pc' := 1734) rfl dL_law_1733 rfl ?_
  refine sw_iload (pc' := 1736) rfl dL_law_1734 rfl ?_
  refine sw_iconst (pc' := 1737) (v := 1) rfl dL_law_1736 (by decide +kernel) ?_
  refine sw_iadd (pc' := 1738) rfl dL_law_1737 ?_
  rw [show (nI i) + 1 = nI (i + 1) from nI_add _ _]
  refine sw_iald (j := i + 1) (pc' := 1739) rfl dL_law_1738 ((pF 0 (by omega) (by omega) (by omega)).trans hs) rfl (by omega) (by omega) ?_
  refine sw_aload_n (pc' := 1740) rfl dL_law_1739 rfl ?_
  refine sw_iload (pc' := 1742) rfl dL_law_1740 rfl ?_
  refine sw_iconst (pc' := 1743) (v := 2) rfl dL_law_1742 (by decide +kernel) ?_
  refine sw_iadd (pc' := 1744) rfl dL_law_1743 ?_
  rw [show (nI i) + 2 = nI (i + 2) from nI_add _ _]
  refine sw_iald (j := i + 2) (pc' := 1745) rfl dL_law_1744 ((pF 0 (by omega) (by omega) (by omega)).trans hs) rfl (by omega) (by omega) ?_
  have hQ2 := hQ.fr (fun i a b => pF i (by omega) (by omega) (by omega))
  obtain ⟨ρ, τ, hM, hA⟩ := id hQ2
  refine sw_V (M' := MX5_areAlike) (d' := d - 1) (bc' := 1) (bs' := 12) (ci := 6) (as := [_, _]) dL_law_1745 w_1443 ok_X5_areAlike (q_areAlike hQ2 (hV.iv hN) (by omega) (by omega) (Nat.le_refl _) (Nat.le_refl _)) hM.ob rfl (by omega) (Nat.le_of_ble_eq_true rfl) (by omega) (by omega) (fun E h' n' _ z => pmc_x z) (pmc_k ox_areAlike (fun u un ub uk uv uR uF => ?_))
  refine sw_istore (pc' := 1750) (lv' := [(6, _), (5, _), (4, _), (3, _), (2, _), (1, _), (0, _)]) rfl dL_law_1748 (by decide +kernel) rfl ?_
  refine sw_goto (tgt := 1944) dL_law_1750 (by decide +kernel) ?_
  have J : LI L xs u un (opAreAlike σ (xs (i + 1)) (xs (i + 2))).2 (N + 12) := ⟨pR.frT (fun i hi => uF i (by omega) (by omega)), ⟨_, uR⟩, hT.fr (fun i hi => (uF i (by omega) (by omega)).trans (pF i (by omega) (by omega) (by omega))), iv_areAlike hV, ⟨_, _, (uF 158 (by omega) (by omega)).trans pO⟩, (uF 0 (by omega) (by omega)).trans ((pF 0 (by omega) (by omega) (by omega)).trans hs), by omega⟩
  exact SW.pick [2, 3, 4, 5, 6] rfl ((K u un _ (by omega) J).bud (by omega) (by omega))
theorem lc_37 {L : Nat} {xs : Nat → Int32} {h : AH} {n i N d bc bs : Nat} {σ : CS} {Post : ARes → AH → Nat → Prop} (hI : LI L xs h n σ N) (hN : N < 2 ^ 31) (hL : L ≤ 3072) (hi : i + 6 ≤ L) (hd : 20 ≤ d) (h1 : 380 ≤ bc) (h2 : 4500 ≤ bs) (K : ∀ (h' : AH) (n' : Nat) (σ' : CS), n ≤ n' → LI L xs h' n' σ' (N + 12) → SW SR0 ML_law d (bc - 380) (bs - 4500) 1944 [(4, .int (nI i)), (3, .ref 158), (2, .ref 135), (1, .ref 100), (0, .ref 0)] [] h' n' Post) : SW SR0 ML_law d bc bs 1753 [(4, .int (nI i)), (3, .ref 158), (2, .ref 135), (1, .ref 100), (0, .ref 0)] [] h n Post := by
  obtain ⟨hR, ⟨th, hQ⟩, hT, hV, ⟨w, s, hO⟩, hs, hn⟩ := hI
  refine sw_aload_n (pc' := 1754) rfl dL_law_1753 rfl ?_
  refine sw_aload_n (pc' := 1755) rfl dL_law_1754 rfl ?_
  refine sw_iload (pc' := 1757) rfl dL_law_1755 rfl ?_
  refine sw_iconst (pc' := 1758) (v := 1) rfl dL_law_1757 (by decide +kernel) ?_
  refine sw_iadd (pc' := 1759) rfl dL_law_1758 ?_
  rw [show (nI i) + 1 = nI (i + 1) from nI_add _ _]
  refine sw_iald (j := i + 1) (pc' := 1760) rfl dL_law_1759 hs rfl (by omega) (by omega) ?_
  refine sw_aload_n (pc' := 1761) rfl dL_law_1760 rfl ?_
  refine sw_iload (pc' := 1763) rfl dL_law_1761 rfl ?_
  refine sw_iconst (pc' := 1764) (v := 2) rfl dL_law_1763 (by decide +kernel) ?_
  refine sw_iadd (pc' := 1765) rfl dL_law_1764 ?_
  rw [show (nI i) + 2 = nI (i + 2) from nI_add _ _]
  refine sw_iald (j := i + 2) (pc' := 1766) rfl dL_law_1765 hs rfl (by omega) (by omega) ?_
  refine sw_if_eq (pc' := 1769) (tgt := 1773) rfl dL_law_1766 (by decide +kernel) (fun c1766 => ?_) (fun c1766 => ?_)
  · refine sw_iconst (pc' := 1774) (v := 0) rfl dL_law_1773 (by decide +kernel) ?_
    refine sw_aload_n (pc' := 1775) rfl dL_law_1774 rfl ?_
    refine sw_S (M' := ML_first) (d' := d - 1) (bc' := 60) (bs' := 400) (as := [_, _, _, _]) dL_law_1775 w_1083 ok_L_first (L_first hR hT hV hN hO hn (by omega) (Nat.le_refl _) (Nat.le_refl _)) (by omega) (Nat.le_of_ble_eq_true rfl) (by omega) (by omega) (fun E h' n' _ z => lpo_x z) (lpo_k (fun p pn pw ps pk pR pO pv pF => ?_))
    refine sw_istore (pc' := 1780) (lv' := [(5, _), (4, _), (3, _), (2, _), (1, _), (0, _)]) rfl dL_law_1778 (by decide +kernel) rfl ?_
    refine sw_aload_n (pc' := 1781) rfl dL_law_1780 rfl ?_
    refine sw_aload_n (pc' := 1782) rfl dL_law_1781 rfl ?_
    refine sw_iload (pc' := 1784) rfl dL_law_1782 rfl ?_
    refine sw_iconst (pc' := 1785) (v := 1) rfl dL_law_1784 (by decide +kernel) ?_
    refine sw_iadd (pc' := 1786) rfl dL_law_1785 ?_
    rw [show (nI i) + 1 = nI (i + 1) from nI_add _ _]
    refine sw_iald (j := i + 1) (pc' := 1787) rfl dL_law_1786 ((pF 0 (by omega) (by omega) (by omega)).trans hs) rfl (by omega) (by omega) ?_
    refine sw_aload_n (pc' := 1788) rfl dL_law_1787 rfl ?_
    refine sw_iload (pc' := 1790) rfl dL_law_1788 rfl ?_
    refine sw_iconst (pc' := 1791) (v := 2) rfl dL_law_1790 (by decide +kernel) ?_
    refine sw_iadd (pc' := 1792) rfl dL_law_1791 ?_
    rw [show (nI i) + 2 = nI (i + 2) from nI_add _ _]
    refine sw_iald (j := i + 2) (pc' := 1793) rfl dL_law_1792 ((pF 0 (by omega) (by omega) (by omega)).trans hs) rfl (by omega) (by omega) ?_
    refine sw_if_eq (pc' := 1796) (tgt := 1800) rfl dL_law_1793 (by decide +kernel) (fun c1793 => ?_) (fun c1793 => ?_)
    · refine sw_iconst (pc' := 1801) (v := 0) rfl dL_law_1800 (by decide +kernel) ?_
      have hQ2 := hQ.fr (fun i a b => pF i (by omega) (by omega) (by omega))
      obtain ⟨ρ, τ, hM, hA⟩ := id hQ2
      refine sw_V (M' := MX5_first) (d' := d - 1) (bc' := 1) (bs' := 12) (ci := 6) (as := [_, _]) dL_law_1801 w_1447 ok_X5_first (q_first hQ2 (hV.iv hN) (by omega) (by omega) (Nat.le_refl _) (Nat.le_refl _)) hM.ob rfl (by omega) (Nat.le_of_ble_eq_true rfl) (by omega) (by omega) (fun E h' n' _ z => pmc_x z) (pmc_k ox_first (fun u un ub uk uv uR uF => ?_))
      refine sw_istore (pc' := 1806) (lv' := [(6, _), (5, _), (4, _), (3, _), (2, _), (1, _), (0, _)]) rfl dL_law_1804 (by decide +kernel) rfl ?_
      refine sw_goto (tgt := 1944) dL_law_1806 (by decide +kernel) ?_
      have J : LI L xs u un (opFirst σ (xs (i + 1)) 0).2 (N + 12) := ⟨pR.frT (fun i hi => uF i (by omega) (by omega)), ⟨_, uR⟩, hT.fr (fun i hi => (uF i (by omega) (by omega)).trans (pF i (by omega) (by omega) (by omega))), iv_first hV, ⟨_, _, (uF 158 (by omega) (by omega)).trans pO⟩, (uF 0 (by omega) (by omega)).trans ((pF 0 (by omega) (by omega) (by omega)).trans hs), by omega⟩
      exact SW.pick [2, 3, 4, 5, 6] rfl ((K u un _ (by omega) J).bud (by omega) (by omega))
    · exact absurd c1766 c1793
  · refine sw_iconst (pc' := 1770) (v := 1) rfl dL_law_1769 (by decide +kernel) ?_
    refine sw_goto (tgt := 1774) dL_law_1770 (by decide +kernel) ?_
    refine sw_aload_n (pc' := 1775) rfl dL_law_1774 rfl ?_
    refine sw_S (M' := ML_first) (d' := d - 1) (bc' := 60) (bs' := 400) (as := [_, _, _, _]) dL_law_1775 w_1083 ok_L_first (L_first hR hT hV hN hO hn (by omega) (Nat.le_refl _) (Nat.le_refl _)) (by omega) (Nat.le_of_ble_eq_true rfl) (by omega) (by omega) (fun E h' n' _ z => lpo_x z) (lpo_k (fun p pn pw ps pk pR pO pv pF => ?_))
    refine sw_istore (pc' := 1780) (lv' := [(5, _), (4, _), (3, _), (2, _), (1, _), (0, _)]) rfl dL_law_1778 (by decide +kernel) rfl ?_
    refine sw_aload_n (pc' := 1781) rfl dL_law_1780 rfl ?_
    refine sw_aload_n (pc' := 1782) rfl dL_law_1781 rfl ?_
    refine sw_iload (pc' := 1784) rfl dL_law_1782 rfl ?_
    refine sw_iconst (pc' := 1785) (v := 1) rfl dL_law_1784 (by decide +kernel) ?_
    refine sw_iadd (pc' := 1786) rfl dL_law_1785 ?_
    rw [show (nI i) + 1 = nI (i + 1) from nI_add _ _]
    refine sw_iald (j := i + 1) (pc' := 1787) rfl dL_law_1786 ((pF 0 (by omega) (by omega) (by omega)).trans hs) rfl (by omega) (by omega) ?_
    refine sw_aload_n (pc' := 1788) rfl dL_law_1787 rfl ?_
    refine sw_iload (pc' := 1790) rfl dL_law_1788 rfl ?_
    refine sw_iconst (pc' := 1791) (v := 2) rfl dL_law_1790 (by decide +kernel) ?_
    refine sw_iadd (pc' := 1792) rfl dL_law_1791 ?_
    rw [show (nI i) + 2 = nI (i + 2) from nI_add _ _]
    refine sw_iald (j := i + 2) (pc' := 1793) rfl dL_law_1792 ((pF 0 (by omega) (by omega) (by omega)).trans hs) rfl (by omega) (by omega) ?_
    refine sw_if_eq (pc' := 1796) (tgt := 1800) rfl dL_law_1793 (by decide +kernel) (fun c1793 => ?_) (fun c1793 => ?_)
    · exact absurd c1793 c1766
    · refine sw_iconst (pc' := 1797) (v := 1) rfl dL_law_1796 (by decide +kernel) ?_
      refine sw_goto (tgt := 1801) dL_law_1797 (by decide +kernel) ?_
      have hQ2 := hQ.fr (fun i a b => pF i (by omega) (by omega) (by omega))
      obtain ⟨ρ, τ, hM, hA⟩ := id hQ2
      refine sw_V (M' := MX5_first) (d' := d - 1) (bc' := 1) (bs' := 12) (ci := 6) (as := [_, _]) dL_law_1801 w_1447 ok_X5_first (q_first hQ2 (hV.iv hN) (by omega) (by omega) (Nat.le_refl _) (Nat.le_refl _)) hM.ob rfl (by omega) (Nat.le_of_ble_eq_true rfl) (by omega) (by omega) (fun E h' n' _ z => pmc_x z) (pmc_k ox_first (fun u un ub uk uv uR uF => ?_))
      refine sw_istore (pc' := 1806) (lv' := [(6, _), (5, _), (4, _), (3, _), (2, _), (1, _), (0, _)]) rfl dL_law_1804 (by decide +kernel) rfl ?_
      refine sw_goto (tgt := 1944) dL_law_1806 (by decide +kernel) ?_
      have J : LI L xs u un (opFirst σ (xs (i + 1)) 1).2 (N + 12) := ⟨pR.frT (fun i hi => uF i (by omega) (by omega)), ⟨_, uR⟩, hT.fr (fun i hi => (uF i (by omega) (by omega)).trans (pF i (by omega) (by omega) (by omega))), iv_first hV, ⟨_, _, (uF 158 (by omega) (by omega)).trans pO⟩, (uF 0 (by omega) (by omega)).trans ((pF 0 (by omega) (by omega) (by omega)).trans hs), by omega⟩
      exact SW.pick [2, 3, 4, 5, 6] rfl ((K u un _ (by omega) J).bud (by omega) (by omega))
theorem lc_38 {L : Nat} {xs : Nat → Int32} {h : AH} {n i N d bc bs : Nat} {σ : CS} {Post : ARes → AH → Nat → Prop} (hI : LI L xs h n σ N) (hN : N < 2 ^ 31) (hL : L ≤ 3072) (hi : i + 6 ≤ L) (hd : 20 ≤ d) (h1 : 380 ≤ bc) (h2 : 4500 ≤ bs) (K : ∀ (h' : AH) (n' : Nat) (σ' : CS), n ≤ n' → LI L xs h' n' σ' (N + 12) → SW SR0 ML_law d (bc - 380) (bs - 4500) 1944 [(4, .int (nI i)), (3, .ref 158), (2, .ref 135), (1, .ref 100), (0, .ref 0)] [] h' n' Post) : SW SR0 ML_law d bc bs 1809 [(4, .int (nI i)), (3, .ref 158), (2, .ref 135), (1, .ref 100), (0, .ref 0)] [] h n Post := by
  obtain ⟨hR, ⟨th, hQ⟩, hT, hV, ⟨w, s, hO⟩, hs, hn⟩ := hI
  refine sw_aload_n (pc' := 1810) rfl dL_law_1809 rfl ?_
  refine sw_aload_n (pc' := 1811) rfl dL_law_1810 rfl ?_
  refine sw_iload (pc' := 1813) rfl dL_law_1811 rfl ?_
  refine sw_iconst (pc' := 1814) (v := 1) rfl dL_law_1813 (by decide +kernel) ?_
  refine sw_iadd (pc' := 1815) rfl dL_law_1814 ?_
  rw [show (nI i) + 1 = nI (i + 1) from nI_add _ _]
  refine sw_iald (j := i + 1) (pc' := 1816) rfl dL_law_1815 hs rfl (by omega) (by omega) ?_
  refine sw_aload_n (pc' := 1817) rfl dL_law_1816 rfl ?_
  refine sw_S (M' := ML_valueOf) (d' := d - 1) (bc' := 60) (bs' := 400) (as := [_, _, _]) dL_law_1817 w_1090 ok_L_valueOf (L_valueOf hR hT hV hN hO hn (by omega) (Nat.le_refl _) (Nat.le_refl _)) (by omega) (Nat.le_of_ble_eq_true rfl) (by omega) (by omega) (fun E h' n' _ z => lpo_x z) (lpo_k (fun p pn pw ps pk pR pO pv pF => ?_))
  refine sw_istore (pc' := 1822) (lv' := [(5, _), (4, _), (3, _), (2, _), (1, _), (0, _)]) rfl dL_law_1820 (by decide +kernel) rfl ?_
  refine sw_aload_n (pc' := 1823) rfl dL_law_1822 rfl ?_
  refine sw_aload_n (pc' := 1824) rfl dL_law_1823 rfl ?_
  refine sw_iload (pc' := 1826) rfl dL_law_1824 rfl ?_
  refine sw_iconst (pc' := 1827) (v := 1) rfl dL_law_1826 (by decide +kernel) ?_
  refine sw_iadd (pc' := 1828) rfl dL_law_1827 ?_
  rw [show (nI i) + 1 = nI (i + 1) from nI_add _ _]
  refine sw_iald (j := i + 1) (pc' := 1829) rfl dL_law_1828 ((pF 0 (by omega) (by omega) (by omega)).trans hs) rfl (by omega) (by omega) ?_
  have hQ2 := hQ.fr (fun i a b => pF i (by omega) (by omega) (by omega))
  obtain ⟨ρ, τ, hM, hA⟩ := id hQ2
  refine sw_V (M' := MX5_valueOf) (d' := d - 1) (bc' := 1) (bs' := 12) (ci := 6) (as := [_]) dL_law_1829 w_1451 ok_X5_valueOf (q_valueOf hQ2 (hV.iv hN) (by omega) (by omega) (Nat.le_refl _) (Nat.le_refl _)) hM.ob rfl (by omega) (Nat.le_of_ble_eq_true rfl) (by omega) (by omega) (fun E h' n' _ z => pmc_x z) (pmc_k ox_valueOf (fun u un ub uk uv uR uF => ?_))
  refine sw_istore (pc' := 1834) (lv' := [(6, _), (5, _), (4, _), (3, _), (2, _), (1, _), (0, _)]) rfl dL_law_1832 (by decide +kernel) rfl ?_
  refine sw_goto (tgt := 1944) dL_law_1834 (by decide +kernel) ?_
  have J : LI L xs u un (opValueOf σ (xs (i + 1))).2 (N + 12) := ⟨pR.frT (fun i hi => uF i (by omega) (by omega)), ⟨_, uR⟩, hT.fr (fun i hi => (uF i (by omega) (by omega)).trans (pF i (by omega) (by omega) (by omega))), iv_valueOf hV, ⟨_, _, (uF 158 (by omega) (by omega)).trans pO⟩, (uF 0 (by omega) (by omega)).trans ((pF 0 (by omega) (by omega) (by omega)).trans hs), by omega⟩
  exact SW.pick [2, 3, 4, 5, 6] rfl ((K u un _ (by omega) J).bud (by omega) (by omega))
theorem lc_39 {L : Nat} {xs : Nat → Int32} {h : AH} {n i N d bc bs : Nat} {σ : CS} {Post : ARes → AH → Nat → Prop} (hI : LI L xs h n σ N) (hN : N < 2 ^ 31) (hL : L ≤ 3072) (hi : i + 6 ≤ L) (hd : 20 ≤ d) (h1 : 380 ≤ bc) (h2 : 4500 ≤ bs) (K : ∀ (h' : AH) (n' : Nat) (σ' : CS), n ≤ n' → LI L xs h' n' σ' (N + 12) → SW SR0 ML_law d (bc - 380) (bs - 4500) 1944 [(4, .int (nI i)), (3, .ref 158), (2, .ref 135), (1, .ref 100), (0, .ref 0)] [] h' n' Post) : SW SR0 ML_law d bc bs 1837 [(4, .int (nI i)), (3, .ref 158), (2, .ref 135), (1, .ref 100), (0, .ref 0)] [] h n Post := by
  obtain ⟨hR, ⟨th, hQ⟩, hT, hV, ⟨w, s, hO⟩, hs, hn⟩ := hI
  refine sw_aload_n (pc' := 1838) rfl dL_law_1837 rfl ?_
  refine sw_aload_n (pc' := 1839) rfl dL_law_1838 rfl ?_
  refine sw_iload (pc' := 1841) rfl dL_law_1839 rfl ?_
  refine sw_iconst (pc' := 1842) (v := 1) rfl dL_law_1841 (by decide +kernel) ?_
  refine sw_iadd (pc' := 1843) rfl dL_law_1842 ?_
  rw [show (nI i) + 1 = nI (i + 1) from nI_add _ _]
  refine sw_iald (j := i + 1) (pc' := 1844) rfl dL_law_1843 hs rfl (by omega) (by omega) ?_
  refine sw_aload_n (pc' := 1845) rfl dL_law_1844 rfl ?_
  refine sw_iload (pc' := 1847) rfl dL_law_1845 rfl ?_
  refine sw_iconst (pc' := 1848) (v := 2) rfl dL_law_1847 (by decide +kernel) ?_
  refine sw_iadd (pc' := 1849) rfl dL_law_1848 ?_
  rw [show (nI i) + 2 = nI (i + 2) from nI_add _ _]
  refine sw_iald (j := i + 2) (pc' := 1850) rfl dL_law_1849 hs rfl (by omega) (by omega) ?_
  refine sw_aload_n (pc' := 1851) rfl dL_law_1850 rfl ?_
  refine sw_S (M' := ML_ofWalk) (d' := d - 1) (bc' := 60) (bs' := 400) (as := [_, _, _, _]) dL_law_1851 w_1097 ok_L_ofWalk (L_ofWalk hR hT hV hN hO hn (by omega) (Nat.le_refl _) (Nat.le_refl _)) (by omega) (Nat.le_of_ble_eq_true rfl) (by omega) (by omega) (fun E h' n' _ z => lpo_x z) (lpo_k (fun p pn pw ps pk pR pO pv pF => ?_))
  refine sw_istore (pc' := 1856) (lv' := [(5, _), (4, _), (3, _), (2, _), (1, _), (0, _)]) rfl dL_law_1854 (by decide +kernel) rfl ?_
  refine sw_aload_n (pc' := 1857) rfl dL_law_1856 rfl ?_
  refine sw_aload_n (pc' := 1858) rfl dL_law_1857 rfl ?_
  refine sw_iload (pc' := 1860) rfl dL_law_1858 rfl ?_
  refine sw_iconst (pc' := 1861) (v := 1) rfl dL_law_1860 (by decide +kernel) ?_
  refine sw_iadd (pc' := 1862) rfl dL_law_1861 ?_
  rw [show (nI i) + 1 = nI (i + 1) from nI_add _ _]
  refine sw_iald (j := i + 1) (pc' := 1863) rfl dL_law_1862 ((pF 0 (by omega) (by omega) (by omega)).trans hs) rfl (by omega) (by omega) ?_
  refine sw_aload_n (pc' := 1864) rfl dL_law_1863 rfl ?_
  refine sw_iload (pc' := 1866) rfl dL_law_1864 rfl ?_
  refine sw_iconst (pc' := 1867) (v := 2) rfl dL_law_1866 (by decide +kernel) ?_
  refine sw_iadd (pc' := 1868) rfl dL_law_1867 ?_
  rw [show (nI i) + 2 = nI (i + 2) from nI_add _ _]
  refine sw_iald (j := i + 2) (pc' := 1869) rfl dL_law_1868 ((pF 0 (by omega) (by omega) (by omega)).trans hs) rfl (by omega) (by omega) ?_
  have hQ2 := hQ.fr (fun i a b => pF i (by omega) (by omega) (by omega))
  obtain ⟨ρ, τ, hM, hA⟩ := id hQ2
  refine sw_V (M' := MX5_ofWalk) (d' := d - 1) (bc' := 1) (bs' := 12) (ci := 6) (as := [_, _]) dL_law_1869 w_1455 ok_X5_ofWalk (q_ofWalk hQ2 (hV.iv hN) (by omega) (by omega) (Nat.le_refl _) (Nat.le_refl _)) hM.ob rfl (by omega) (Nat.le_of_ble_eq_true rfl) (by omega) (by omega) (fun E h' n' _ z => pmc_x z) (pmc_k ox_ofWalk (fun u un ub uk uv uR uF => ?_))
  refine sw_istore (pc' := 1874) (lv' := [(6, _), (5, _), (4, _), (3, _), (2, _), (1, _), (0, _)]) rfl dL_law_1872 (by decide +kernel) rfl ?_
  refine sw_goto (tgt := 1944) dL_law_1874 (by decide +kernel) ?_
  have J : LI L xs u un (opOfWalk σ (xs (i + 1)) (xs (i + 2))).2 (N + 12) := ⟨pR.frT (fun i hi => uF i (by omega) (by omega)), ⟨_, uR⟩, hT.fr (fun i hi => (uF i (by omega) (by omega)).trans (pF i (by omega) (by omega) (by omega))), iv_ofWalk hV, ⟨_, _, (uF 158 (by omega) (by omega)).trans pO⟩, (uF 0 (by omega) (by omega)).trans ((pF 0 (by omega) (by omega) (by omega)).trans hs), by omega⟩
  exact SW.pick [2, 3, 4, 5, 6] rfl ((K u un _ (by omega) J).bud (by omega) (by omega))
theorem lc_40 {L : Nat} {xs : Nat → Int32} {h : AH} {n i N d bc bs : Nat} {σ : CS} {Post : ARes → AH → Nat → Prop} (hI : LI L xs h n σ N) (hN : N < 2 ^ 31) (hL : L ≤ 3072) (hi : i + 6 ≤ L) (hd : 20 ≤ d) (h1 : 380 ≤ bc) (h2 : 4500 ≤ bs) (K : ∀ (h' : AH) (n' : Nat) (σ' : CS), n ≤ n' → LI L xs h' n' σ' (N + 12) → SW SR0 ML_law d (bc - 380) (bs - 4500) 1944 [(4, .int (nI i)), (3, .ref 158), (2, .ref 135), (1, .ref 100), (0, .ref 0)] [] h' n' Post) : SW SR0 ML_law d bc bs 1877 [(4, .int (nI i)), (3, .ref 158), (2, .ref 135), (1, .ref 100), (0, .ref 0)] [] h n Post := by
  obtain ⟨hR, ⟨th, hQ⟩, hT, hV, ⟨w, s, hO⟩, hs, hn⟩ := hI
  refine sw_aload_n (pc' := 1878) rfl dL_law_1877 rfl ?_
  refine sw_aload_n (pc' := 1879) rfl dL_law_1878 rfl ?_
  refine sw_iload (pc' := 1881) rfl dL_law_1879 rfl ?_
  refine sw_iconst (pc' := 1882) (v := 1) rfl dL_law_1881 (by decide +kernel) ?_
  refine sw_iadd (pc' := 1883) rfl dL_law_1882 ?_
  rw [show (nI i) + 1 = nI (i + 1) from nI_add _ _]
  refine sw_iald (j := i + 1) (pc' := 1884) rfl dL_law_1883 hs rfl (by omega) (by omega) ?_
  refine sw_aload_n (pc' := 1885) rfl dL_law_1884 rfl ?_
  refine sw_S (M' := ML_house) (d' := d - 1) (bc' := 60) (bs' := 400) (as := [_, _, _]) dL_law_1885 w_1101 ok_L_house (L_house hR hT hV hN hO hn (by omega) (Nat.le_refl _) (Nat.le_refl _)) (by omega) (Nat.le_of_ble_eq_true rfl) (by omega) (by omega) (fun E h' n' _ z => lpo_x z) (lpo_k (fun p pn pw ps pk pR pO pv pF => ?_))
  refine sw_istore (pc' := 1890) (lv' := [(5, _), (4, _), (3, _), (2, _), (1, _), (0, _)]) rfl dL_law_1888 (by decide +kernel) rfl ?_
  refine sw_aload_n (pc' := 1891) rfl dL_law_1890 rfl ?_
  refine sw_aload_n (pc' := 1892) rfl dL_law_1891 rfl ?_
  refine sw_iload (pc' := 1894) rfl dL_law_1892 rfl ?_
  refine sw_iconst (pc' := 1895) (v := 1) rfl dL_law_1894 (by decide +kernel) ?_
  refine sw_iadd (pc' := 1896) rfl dL_law_1895 ?_
  rw [show (nI i) + 1 = nI (i + 1) from nI_add _ _]
  refine sw_iald (j := i + 1) (pc' := 1897) rfl dL_law_1896 ((pF 0 (by omega) (by omega) (by omega)).trans hs) rfl (by omega) (by omega) ?_
  have hQ2 := hQ.fr (fun i a b => pF i (by omega) (by omega) (by omega))
  obtain ⟨ρ, τ, hM, hA⟩ := id hQ2
  refine sw_V (M' := MX5_house) (d' := d - 1) (bc' := 1) (bs' := 12) (ci := 6) (as := [_]) dL_law_1897 w_1463 ok_X5_house (q_house hQ2 (hV.iv hN) (by omega) (by omega) (Nat.le_refl _) (Nat.le_refl _)) hM.ob rfl (by omega) (Nat.le_of_ble_eq_true rfl) (by omega) (by omega) (fun E h' n' _ z => pmc_x z) (pmc_k ox_house (fun u un ub uk uv uR uF => ?_))
  refine sw_istore (pc' := 1902) (lv' := [(6, _), (5, _), (4, _), (3, _), (2, _), (1, _), (0, _)]) rfl dL_law_1900 (by decide +kernel) rfl ?_
  refine sw_goto (tgt := 1944) dL_law_1902 (by decide +kernel) ?_
  have J : LI L xs u un (opHouse σ (xs (i + 1))).2 (N + 12) := ⟨pR.frT (fun i hi => uF i (by omega) (by omega)), ⟨_, uR⟩, hT.fr (fun i hi => (uF i (by omega) (by omega)).trans (pF i (by omega) (by omega) (by omega))), iv_house hV, ⟨_, _, (uF 158 (by omega) (by omega)).trans pO⟩, (uF 0 (by omega) (by omega)).trans ((pF 0 (by omega) (by omega) (by omega)).trans hs), by omega⟩
  exact SW.pick [2, 3, 4, 5, 6] rfl ((K u un _ (by omega) J).bud (by omega) (by omega))
theorem lc_41 {L : Nat} {xs : Nat → Int32} {h : AH} {n i N d bc bs : Nat} {σ : CS} {Post : ARes → AH → Nat → Prop} (hI : LI L xs h n σ N) (hN : N < 2 ^ 31) (hL : L ≤ 3072) (hi : i + 6 ≤ L) (hd : 20 ≤ d) (h1 : 380 ≤ bc) (h2 : 4500 ≤ bs) (K : ∀ (h' : AH) (n' : Nat) (σ' : CS), n ≤ n' → LI L xs h' n' σ' (N + 12) → SW SR0 ML_law d (bc - 380) (bs - 4500) 1944 [(4, .int (nI i)), (3, .ref 158), (2, .ref 135), (1, .ref 100), (0, .ref 0)] [] h' n' Post) : SW SR0 ML_law d bc bs 1905 [(4, .int (nI i)), (3, .ref 158), (2, .ref 135), (1, .ref 100), (0, .ref 0)] [] h n Post := by
  obtain ⟨hR, ⟨th, hQ⟩, hT, hV, ⟨w, s, hO⟩, hs, hn⟩ := hI
  refine sw_aload_n (pc' := 1906) rfl dL_law_1905 rfl ?_
  refine sw_V (M' := MX3_knock) (d' := d - 1) (bc' := 0) (bs' := 0) (ci := 4) (as := []) dL_law_1906 w_172 ok_X3_knock (m_knock hR) hR.1 rfl (by omega) (Nat.le_of_ble_eq_true rfl) (Nat.zero_le _) (Nat.zero_le _) (fun E h' n' _ z => cp_x z) (cp_k (fun p pR pF => ?_))
  refine sw_pop (pc' := 1910) rfl dL_law_1909 rfl ?_
  refine sw_aload_n (pc' := 1911) rfl dL_law_1910 rfl ?_
  obtain ⟨ρ, τ, hM, hA⟩ := hQ.fr (fun i a b => pF i (by omega) (by omega))
  refine sw_V (M' := MX5_knock) (d' := d - 1) (bc' := 0) (bs' := 0) (ci := 6) (as := []) dL_law_1911 w_1471 ok_X5_knock (q_knock hM hA) hM.ob rfl (by omega) (Nat.le_of_ble_eq_true rfl) (Nat.zero_le _) (Nat.zero_le _) (fun E h' n' _ z => rp_x z) (rp_k (fun u uρ uτ uM uA uF => ?_))
  refine sw_pop (pc' := 1915) rfl dL_law_1914 rfl ?_
  refine sw_goto (tgt := 1944) dL_law_1915 (by decide +kernel) ?_
  have J : LI L xs u n (knU σ) (N + 12) := ⟨pR.frT (fun i hi => uF i (by omega) (by omega)), ⟨_, _, _, uM, uA⟩, hT.fr (fun i hi => (uF i (by omega) (by omega)).trans (pF i (by omega) (by omega))), hV.kn.mono (by omega), ⟨_, _, (uF 158 (by omega) (by omega)).trans ((pF 158 (by omega) (by omega)).trans hO)⟩, (uF 0 (by omega) (by omega)).trans ((pF 0 (by omega) (by omega)).trans hs), by omega⟩
  exact SW.pick [0, 1, 2, 3, 4] rfl ((K u n _ (by omega) J).bud (by omega) (by omega))
theorem lc_42 {L : Nat} {xs : Nat → Int32} {h : AH} {n i N d bc bs : Nat} {σ : CS} {Post : ARes → AH → Nat → Prop} (hI : LI L xs h n σ N) (hN : N < 2 ^ 31) (hL : L ≤ 3072) (hi : i + 6 ≤ L) (hd : 20 ≤ d) (h1 : 380 ≤ bc) (h2 : 4500 ≤ bs) (K : ∀ (h' : AH) (n' : Nat) (σ' : CS), n ≤ n' → LI L xs h' n' σ' (N + 12) → SW SR0 ML_law d (bc - 380) (bs - 4500) 1944 [(4, .int (nI i)), (3, .ref 158), (2, .ref 135), (1, .ref 100), (0, .ref 0)] [] h' n' Post) : SW SR0 ML_law d bc bs 1918 [(4, .int (nI i)), (3, .ref 158), (2, .ref 135), (1, .ref 100), (0, .ref 0)] [] h n Post := by
  obtain ⟨hR, ⟨th, hQ⟩, hT, hV, ⟨w, s, hO⟩, hs, hn⟩ := hI
  refine sw_aload_n (pc' := 1919) rfl dL_law_1918 rfl ?_
  refine sw_V (M' := MX3_isSound) (d' := d - 1) (bc' := 0) (bs' := 0) (ci := 4) (as := []) dL_law_1919 w_176 ok_X3_isSound (m_isSound hR (by omega)) hR.1 rfl (by omega) (Nat.le_of_ble_eq_true rfl) (Nat.zero_le _) (Nat.zero_le _) (fun E h' n' _ z => cp_x z) (cp_k (fun p pR pF => ?_))
  refine sw_pop (pc' := 1923) rfl dL_law_1922 rfl ?_
  refine sw_aload_n (pc' := 1924) rfl dL_law_1923 rfl ?_
  obtain ⟨ρ, τ, hM, hA⟩ := hQ.fr (fun i a b => pF i (by omega) (by omega))
  refine sw_V (M' := MX5_isSound) (d' := d - 1) (bc' := 0) (bs' := 0) (ci := 6) (as := []) dL_law_1924 w_1475 ok_X5_isSound (q_isSound hM hA) hM.ob rfl (by omega) (Nat.le_of_ble_eq_true rfl) (Nat.zero_le _) (Nat.zero_le _) (fun E h' n' _ z => rp_x z) (rp_k (fun u uρ uτ uM uA uF => ?_))
  refine sw_pop (pc' := 1928) rfl dL_law_1927 rfl ?_
  refine sw_goto (tgt := 1944) dL_law_1928 (by decide +kernel) ?_
  have J : LI L xs u n σ (N + 12) := ⟨pR.frT (fun i hi => uF i (by omega) (by omega)), ⟨_, _, _, uM, uA⟩, hT.fr (fun i hi => (uF i (by omega) (by omega)).trans (pF i (by omega) (by omega))), hV.mono (by omega), ⟨_, _, (uF 158 (by omega) (by omega)).trans ((pF 158 (by omega) (by omega)).trans hO)⟩, (uF 0 (by omega) (by omega)).trans ((pF 0 (by omega) (by omega)).trans hs), by omega⟩
  exact SW.pick [0, 1, 2, 3, 4] rfl ((K u n _ (by omega) J).bud (by omega) (by omega))
theorem lc_43 {L : Nat} {xs : Nat → Int32} {h : AH} {n i N d bc bs : Nat} {σ : CS} {Post : ARes → AH → Nat → Prop} (hI : LI L xs h n σ N) (hN : N < 2 ^ 31) (hL : L ≤ 3072) (hi : i + 6 ≤ L) (hd : 20 ≤ d) (h1 : 380 ≤ bc) (h2 : 4500 ≤ bs) (K : ∀ (h' : AH) (n' : Nat) (σ' : CS), n ≤ n' → LI L xs h' n' σ' (N + 12) → SW SR0 ML_law d (bc - 380) (bs - 4500) 1944 [(4, .int (nI i)), (3, .ref 158), (2, .ref 135), (1, .ref 100), (0, .ref 0)] [] h' n' Post) : SW SR0 ML_law d bc bs 1931 [(4, .int (nI i)), (3, .ref 158), (2, .ref 135), (1, .ref 100), (0, .ref 0)] [] h n Post := by
  obtain ⟨hR, ⟨th, hQ⟩, hT, hV, ⟨w, s, hO⟩, hs, hn⟩ := hI
  refine sw_aload_n (pc' := 1932) rfl dL_law_1931 rfl ?_
  refine sw_V (M' := MX3_digest) (d' := d - 1) (bc' := 24) (bs' := 144) (ci := 4) (as := []) dL_law_1932 w_251 ok_X3_digest (m_digest hR (by omega) (Nat.le_refl _) (Nat.le_refl _)) hR.1 rfl (by omega) (Nat.le_of_ble_eq_true rfl) (by omega) (by omega) (fun E h' n' _ z => cp_x z) (cp_k (fun p pR pF => ?_))
  refine sw_pop2 (pc' := 1936) rfl dL_law_1935 rfl ?_
  refine sw_aload_n (pc' := 1937) rfl dL_law_1936 rfl ?_
  have hQ2 := hQ.fr (fun i a b => pF i (by omega) (by omega))
  obtain ⟨ρ, τ, hM, hA⟩ := id hQ2
  refine sw_V (M' := MX5_digest) (d' := d - 1) (bc' := 40) (bs' := 400) (ci := 6) (as := []) dL_law_1937 w_1479 ok_X5_digest (q_digest hQ2 (hV.iv hN) hV.sn hn (by omega) (Nat.le_refl _) (Nat.le_refl _)) hM.ob rfl (by omega) (Nat.le_of_ble_eq_true rfl) (by omega) (by omega) (fun E h' n' _ z => absurd z.1 (fun e => by cases e)) (dpc_k (fun u un uk uR uF => ?_))
  refine sw_pop2 (pc' := 1941) rfl dL_law_1940 rfl ?_
  refine sw_goto (tgt := 1944) dL_law_1941 (by decide +kernel) ?_
  have J : LI L xs u un σ (N + 12) := ⟨pR.frT (fun i hi => uF i (by omega) (by omega)), ⟨_, uR⟩, hT.fr (fun i hi => (uF i (by omega) (by omega)).trans (pF i (by omega) (by omega))), hV.mono (by omega), ⟨_, _, (uF 158 (by omega) (by omega)).trans ((pF 158 (by omega) (by omega)).trans hO)⟩, (uF 0 (by omega) (by omega)).trans ((pF 0 (by omega) (by omega)).trans hs), by omega⟩
  exact SW.pick [0, 1, 2, 3, 4] rfl ((K u un _ (by omega) J).bud (by omega) (by omega))
