section
/-! 57.law -/
/-! the law's cases -/
theorem SW.bud {SR : SRT} {M : MI} {d bc bs bc' bs' pc n : Nat} {lv : List (Nat × Value)} {st : List Value} {h : AH} {Post : ARes → AH → Nat → Prop} (k : SW SR M d bc bs pc lv st h n Post) (h1 : bc ≤ bc') (h2 : bs ≤ bs') : SW SR M d bc' bs' pc lv st h n Post := by
  intro G p l e R s m args below meth c A ad0 n0 Q hc hr he H locs cells slots ls ad hm hl hx hbc hbs
  exact k G p l e R s m args below meth c A ad0 n0 Q hc hr he H locs cells slots ls ad hm hl hx (by omega) (by omega)
theorem lg_self (x : Int64) : lg_cmp x x = 0 := by
  unfold lg_cmp
  simp
/-- between two calls -/
def LI (L : Nat) (xs : Nat → Int32) (h : AH) (n : Nat) (σ : CS) (N : Nat) : Prop := RC h σ ∧ (∃ th, RMo h σ th) ∧ TXT h ∧ IV σ N ∧ (∃ w s, h 158 = .inr (5, [.long w, s])) ∧ h 0 = .inl (0, L, .inl xs) ∧ 159 ≤ n
section
variable {h : AH} {n n' : Nat} {t : ARes → Int32} {q : ARes × CS}
theorem lpo_k {A : Nat → AH → Option Value → Prop} {n0 : Nat} (k : ∀ h' n' w s, n ≤ n' → RC h' q.2 → h' 158 = .inr (5, [.long w, s]) → (∀ v, q.1 = rI v → w = v.toInt64) → (∀ i, i < 100 ∨ 135 ≤ i → i ≠ 158 → i < n → h' i = h i) → A n' h' (some (.int (t q.1)))) : ∀ (v : Option Value) (h' : AH) (n' : Nat), n0 ≤ n' → LPo h n t q (.inl v) h' n' → A n' h' v := by
  rintro v h' n' - ⟨e, g1, g2, ⟨w, s, g3, g4⟩, g5⟩
  cases e
  exact k h' n' w s g1 g2 g3 g4 g5
theorem lpo_x {A : Prop} {E : String} {h' : AH} {n' : Nat} (z : LPo h n t q (.inr E) h' n') : A := by cases z.1
theorem pmc_k {A : Nat → AH → Option Value → Prop} {l : List String} {n0 : Nat} (hO : OX l q) (k : ∀ h' n' b, n ≤ n' → (∀ v, q.1 = rI v → b = v) → RMo h' q.2 (t q.1) → FrM h h' n → A n' h' (some (.int b))) : ∀ (v : Option Value) (h' : AH) (n' : Nat), n0 ≤ n' → PM h n t q (.inl v) h' n' → A n' h' v := by
  rintro v h' n' - ⟨e, g1, g2, g3⟩
  rcases hO with ⟨b, e2⟩ | ⟨E, -, e2⟩
  · have e3 : v = some (.int b) := by rw [e2] at e; exact Sum.inl.inj e
    rw [e3]
    exact k h' n' b g1 (fun v e4 => by rw [e2] at e4; exact Value.int.inj (Option.some.inj (Sum.inl.inj e4))) g2 g3
  · have e3 : v = some (.int 0) := by rw [e2] at e; exact Sum.inl.inj e
    rw [e3]
    exact k h' n' 0 g1 (fun v e4 => by rw [e2] at e4; cases e4) g2 g3
theorem pmc_x {A : Prop} {E : String} {h' : AH} {n' : Nat} (z : PM h n t q (.inr E) h' n') : A := by cases z.1
theorem ox_0 {l : List String} {a b : String} (hO : OX l q) (e : tc a b q.1 = 0) : ∃ v, q.1 = rI v := by
  rcases hO with e2 | ⟨E, -, e2⟩
  · exact e2
  · exfalso
    rw [e2] at e
    have e3 : (if E = a then (1 : Int32) else if E = b then 2 else 3) = 0 := e
    split at e3
    · exact absurd e3 (by decide +kernel)
    · split at e3
      · exact absurd e3 (by decide +kernel)
      · exact absurd e3 (by decide +kernel)
end
def ML_law : MI := (yL_law, cL_law, 7, (Option.some Jvm.ClassFile.FieldType.boolean), [])
theorem dpc_k {A : Nat → AH → Option Value → Prop} {h : AH} {n n0 : Nat} {σ : CS} (k : ∀ h' n', n ≤ n' → RMo h' σ 0 → FrM h h' n → A n' h' (some (.long (dgZ σ)))) : ∀ (v : Option Value) (h' : AH) (n' : Nat), n0 ≤ n' → DP h n σ (.inl v) h' n' → A n' h' v := by
  rintro v h' n' - ⟨e, g1, g2, g3⟩
  cases e
  exact k h' n' g1 g2 g3
theorem lc_0 {L : Nat} {xs : Nat → Int32} {h : AH} {n i N d bc bs : Nat} {σ : CS} {Post : ARes → AH → Nat → Prop} (hI : LI L xs h n σ N) (hN : N < 2 ^ 31) (hL : L ≤ 3072) (hi : i + 6 ≤ L) (hd : 20 ≤ d) (h1 : 380 ≤ bc) (h2 : 4500 ≤ bs) (K : ∀ (h' : AH) (n' : Nat) (σ' : CS), n ≤ n' → LI L xs h' n' σ' (N + 12) → SW SR0 ML_law d (bc - 380) (bs - 4500) 1944 [(4, .int (nI i)), (3, .ref 158), (2, .ref 135), (1, .ref 100), (0, .ref 0)] [] h' n' Post) : SW SR0 ML_law d bc bs 236 [(4, .int (nI i)), (3, .ref 158), (2, .ref 135), (1, .ref 100), (0, .ref 0)] [] h n Post := by
  obtain ⟨hR, ⟨th, hQ⟩, hT, hV, ⟨w, s, hO⟩, hs, hn⟩ := hI
  refine sw_aload_n (pc' := 237) rfl dL_law_236 rfl ?_
  refine sw_aload_n (pc' := 238) rfl dL_law_237 rfl ?_
  refine sw_iload (pc' := 240) rfl dL_law_238 rfl ?_
  refine sw_iconst (pc' := 241) (v := 1) rfl dL_law_240 (by decide +kernel) ?_
  refine sw_iadd (pc' := 242) rfl dL_law_241 ?_
  rw [show (nI i) + 1 = nI (i + 1) from nI_add _ _]
  refine sw_iald (j := i + 1) (pc' := 243) rfl dL_law_242 hs rfl (by omega) (by omega) ?_
  refine sw_aload_n (pc' := 244) rfl dL_law_243 rfl ?_
  refine sw_iload (pc' := 246) rfl dL_law_244 rfl ?_
  refine sw_iconst (pc' := 247) (v := 2) rfl dL_law_246 (by decide +kernel) ?_
  refine sw_iadd (pc' := 248) rfl dL_law_247 ?_
  rw [show (nI i) + 2 = nI (i + 2) from nI_add _ _]
  refine sw_iald (j := i + 2) (pc' := 249) rfl dL_law_248 hs rfl (by omega) (by omega) ?_
  refine sw_aload_n (pc' := 250) rfl dL_law_249 rfl ?_
  refine sw_S (M' := ML_put) (d' := d - 1) (bc' := 60) (bs' := 400) (as := [_, _, _, _]) dL_law_250 w_392 ok_L_put (L_put hR hT hV hN hO hn (by omega) (Nat.le_refl _) (Nat.le_refl _)) (by omega) (Nat.le_of_ble_eq_true rfl) (by omega) (by omega) (fun E h' n' _ z => lpo_x z) (lpo_k (fun p pn pw ps pk pR pO pv pF => ?_))
  refine sw_istore (pc' := 255) (lv' := [(5, _), (4, _), (3, _), (2, _), (1, _), (0, _)]) rfl dL_law_253 (by decide +kernel) rfl ?_
  refine sw_aload_n (pc' := 256) rfl dL_law_255 rfl ?_
  refine sw_aload_n (pc' := 257) rfl dL_law_256 rfl ?_
  refine sw_iload (pc' := 259) rfl dL_law_257 rfl ?_
  refine sw_iconst (pc' := 260) (v := 1) rfl dL_law_259 (by decide +kernel) ?_
  refine sw_iadd (pc' := 261) rfl dL_law_260 ?_
  rw [show (nI i) + 1 = nI (i + 1) from nI_add _ _]
  refine sw_iald (j := i + 1) (pc' := 262) rfl dL_law_261 ((pF 0 (by omega) (by omega) (by omega)).trans hs) rfl (by omega) (by omega) ?_
  refine sw_aload_n (pc' := 263) rfl dL_law_262 rfl ?_
  refine sw_iload (pc' := 265) rfl dL_law_263 rfl ?_
  refine sw_iconst (pc' := 266) (v := 2) rfl dL_law_265 (by decide +kernel) ?_
  refine sw_iadd (pc' := 267) rfl dL_law_266 ?_
  rw [show (nI i) + 2 = nI (i + 2) from nI_add _ _]
  refine sw_iald (j := i + 2) (pc' := 268) rfl dL_law_267 ((pF 0 (by omega) (by omega) (by omega)).trans hs) rfl (by omega) (by omega) ?_
  have hQ2 := hQ.fr (fun i a b => pF i (by omega) (by omega) (by omega))
  obtain ⟨ρ, τ, hM, hA⟩ := id hQ2
  refine sw_V (M' := MX5_put) (d' := d - 1) (bc' := 1) (bs' := 12) (ci := 6) (as := [_, _]) dL_law_268 w_1161 ok_X5_put (q_put hQ2 (hV.iv hN) (by omega) (by omega) (Nat.le_refl _) (Nat.le_refl _)) hM.ob rfl (by omega) (Nat.le_of_ble_eq_true rfl) (by omega) (by omega) (fun E h' n' _ z => pmc_x z) (pmc_k ox_put (fun u un ub uk uv uR uF => ?_))
  refine sw_istore (pc' := 273) (lv' := [(6, _), (5, _), (4, _), (3, _), (2, _), (1, _), (0, _)]) rfl dL_law_271 (by decide +kernel) rfl ?_
  refine sw_aload_n (pc' := 274) rfl dL_law_273 rfl ?_
  obtain ⟨uρ, uτ, uM, uA⟩ := id uR
  refine sw_V (M' := MX5_thrown) (d' := d - 1) (bc' := 0) (bs' := 0) (ci := 6) (as := []) dL_law_274 w_1157 ok_X5_thrown (q_thrown uM) uM.ob rfl (by omega) (Nat.le_of_ble_eq_true rfl) (Nat.zero_le _) (Nat.zero_le _) (fun E h' n' _ z => det_x z) (det_k ?_)
  refine sw_iload (pc' := 279) rfl dL_law_277 rfl ?_
  refine sw_icmp_eq (pc' := 282) (tgt := 284) rfl dL_law_279 (by decide +kernel) (fun c279 => ?_) (fun c279 => ?_)
  · refine sw_iload (pc' := 286) rfl dL_law_284 rfl ?_
    refine sw_if_ne (pc' := 289) (tgt := 302) rfl dL_law_286 (by decide +kernel) (fun c286 => ?_) (fun c286 => ?_)
    · refine sw_goto (tgt := 1944) dL_law_302 (by decide +kernel) ?_
      have J : LI L xs u un (opPut σ (xs (i + 1)) (xs (i + 2))).2 (N + 12) := ⟨pR.frT (fun i hi => uF i (by omega) (by omega)), ⟨_, uR⟩, hT.fr (fun i hi => (uF i (by omega) (by omega)).trans (pF i (by omega) (by omega) (by omega))), iv_put hV, ⟨_, _, (uF 158 (by omega) (by omega)).trans pO⟩, (uF 0 (by omega) (by omega)).trans ((pF 0 (by omega) (by omega) (by omega)).trans hs), by omega⟩
      exact SW.pick [2, 3, 4, 5, 6] rfl ((K u un _ (by omega) J).bud (by omega) (by omega))
    · refine sw_aload_n (pc' := 290) rfl dL_law_289 rfl ?_
      refine sw_getN (ci := 5) (k := 0) (pc' := 293) rfl dL_law_290 (by decide +kernel) v_347 ((uF 158 (by omega) (by omega)).trans pO) (by show 100 ≤ _; omega) rfl ?_
      refine sw_iload (pc' := 295) rfl dL_law_293 rfl ?_
      refine sw_i2l (pc' := 296) rfl dL_law_295 ?_
      refine sw_lcmp (pc' := 297) rfl dL_law_296 ?_
      refine sw_if_eq (pc' := 300) (tgt := 302) rfl dL_law_297 (by decide +kernel) (fun c297 => ?_) (fun c297 => ?_)
      · refine sw_goto (tgt := 1944) dL_law_302 (by decide +kernel) ?_
        have J : LI L xs u un (opPut σ (xs (i + 1)) (xs (i + 2))).2 (N + 12) := ⟨pR.frT (fun i hi => uF i (by omega) (by omega)), ⟨_, uR⟩, hT.fr (fun i hi => (uF i (by omega) (by omega)).trans (pF i (by omega) (by omega) (by omega))), iv_put hV, ⟨_, _, (uF 158 (by omega) (by omega)).trans pO⟩, (uF 0 (by omega) (by omega)).trans ((pF 0 (by omega) (by omega) (by omega)).trans hs), by omega⟩
        exact SW.pick [2, 3, 4, 5, 6] rfl ((K u un _ (by omega) J).bud (by omega) (by omega))
      · obtain ⟨v9, e9⟩ := ox_0 ox_put c286
        exact absurd (by rw [pv v9 e9, uv v9 e9]; exact lg_self _) c297
  · exact absurd rfl c279
theorem lc_1 {L : Nat} {xs : Nat → Int32} {h : AH} {n i N d bc bs : Nat} {σ : CS} {Post : ARes → AH → Nat → Prop} (hI : LI L xs h n σ N) (hN : N < 2 ^ 31) (hL : L ≤ 3072) (hi : i + 6 ≤ L) (hd : 20 ≤ d) (h1 : 380 ≤ bc) (h2 : 4500 ≤ bs) (K : ∀ (h' : AH) (n' : Nat) (σ' : CS), n ≤ n' → LI L xs h' n' σ' (N + 12) → SW SR0 ML_law d (bc - 380) (bs - 4500) 1944 [(4, .int (nI i)), (3, .ref 158), (2, .ref 135), (1, .ref 100), (0, .ref 0)] [] h' n' Post) : SW SR0 ML_law d bc bs 305 [(4, .int (nI i)), (3, .ref 158), (2, .ref 135), (1, .ref 100), (0, .ref 0)] [] h n Post := by
  obtain ⟨hR, ⟨th, hQ⟩, hT, hV, ⟨w, s, hO⟩, hs, hn⟩ := hI
  refine sw_aload_n (pc' := 306) rfl dL_law_305 rfl ?_
  refine sw_aload_n (pc' := 307) rfl dL_law_306 rfl ?_
  refine sw_iload (pc' := 309) rfl dL_law_307 rfl ?_
  refine sw_iconst (pc' := 310) (v := 1) rfl dL_law_309 (by decide +kernel) ?_
  refine sw_iadd (pc' := 311) rfl dL_law_310 ?_
  rw [show (nI i) + 1 = nI (i + 1) from nI_add _ _]
  refine sw_iald (j := i + 1) (pc' := 312) rfl dL_law_311 hs rfl (by omega) (by omega) ?_
  refine sw_aload_n (pc' := 313) rfl dL_law_312 rfl ?_
  refine sw_iload (pc' := 315) rfl dL_law_313 rfl ?_
  refine sw_iconst (pc' := 316) (v := 2) rfl dL_law_315 (by decide +kernel) ?_
  refine sw_iadd (pc' := 317) rfl dL_law_316 ?_
  rw [show (nI i) + 2 = nI (i + 2) from nI_add _ _]
  refine sw_iald (j := i + 2) (pc' := 318) rfl dL_law_317 hs rfl (by omega) (by omega) ?_
  refine sw_aload_n (pc' := 319) rfl dL_law_318 rfl ?_
  refine sw_iload (pc' := 321) rfl dL_law_319 rfl ?_
  refine sw_iconst (pc' := 322) (v := 3) rfl dL_law_321 (by decide +kernel) ?_
  refine sw_iadd (pc' := 323) rfl dL_law_322 ?_
  rw [show (nI i) + 3 = nI (i + 3) from nI_add _ _]
  refine sw_iald (j := i + 3) (pc' := 324) rfl dL_law_323 hs rfl (by omega) (by omega) ?_
  refine sw_aload_n (pc' := 325) rfl dL_law_324 rfl ?_
  refine sw_iload (pc' := 327) rfl dL_law_325 rfl ?_
  refine sw_iconst (pc' := 328) (v := 4) rfl dL_law_327 (by decide +kernel) ?_
  refine sw_iadd (pc' := 329) rfl dL_law_328 ?_
  rw [show (nI i) + 4 = nI (i + 4) from nI_add _ _]
  refine sw_iald (j := i + 4) (pc' := 330) rfl dL_law_329 hs rfl (by omega) (by omega) ?_
  refine sw_aload_n (pc' := 331) rfl dL_law_330 rfl ?_
  refine sw_iload (pc' := 333) rfl dL_law_331 rfl ?_
  refine sw_iconst (pc' := 334) (v := 5) rfl dL_law_333 (by decide +kernel) ?_
  refine sw_iadd (pc' := 335) rfl dL_law_334 ?_
  rw [show (nI i) + 5 = nI (i + 5) from nI_add _ _]
  refine sw_iald (j := i + 5) (pc' := 336) rfl dL_law_335 hs rfl (by omega) (by omega) ?_
  refine sw_aload_n (pc' := 337) rfl dL_law_336 rfl ?_
  refine sw_S (M' := ML_putAll) (d' := d - 1) (bc' := 60) (bs' := 400) (as := [_, _, _, _, _, _, _]) dL_law_337 w_457 ok_L_putAll (L_putAll hR hT hV hN hO hn (by omega) (Nat.le_refl _) (Nat.le_refl _)) (by omega) (Nat.le_of_ble_eq_true rfl) (by omega) (by omega) (fun E h' n' _ z => lpo_x z) (lpo_k (fun p pn pw ps pk pR pO pv pF => ?_))
  refine sw_istore (pc' := 342) (lv' := [(5, _), (4, _), (3, _), (2, _), (1, _), (0, _)]) rfl dL_law_340 (by decide +kernel) rfl ?_
  refine sw_aload_n (pc' := 343) rfl dL_law_342 rfl ?_
  refine sw_aload_n (pc' := 344) rfl dL_law_343 rfl ?_
  refine sw_iload (pc' := 346) rfl dL_law_344 rfl ?_
  refine sw_iconst (pc' := 347) (v := 1) rfl dL_law_346 (by decide +kernel) ?_
  refine sw_iadd (pc' := 348) rfl dL_law_347 ?_
  rw [show (nI i) + 1 = nI (i + 1) from nI_add _ _]
  refine sw_iald (j := i + 1) (pc' := 349) rfl dL_law_348 ((pF 0 (by omega) (by omega) (by omega)).trans hs) rfl (by omega) (by omega) ?_
  refine sw_aload_n (pc' := 350) rfl dL_law_349 rfl ?_
  refine sw_iload (pc' := 352) rfl dL_law_350 rfl ?_
  refine sw_iconst (pc' := 353) (v := 2) rfl dL_law_352 (by decide +kernel) ?_
  refine sw_iadd (pc' := 354) rfl dL_law_353 ?_
  rw [show (nI i) + 2 = nI (i + 2) from nI_add _ _]
  refine sw_iald (j := i + 2) (pc' := 355) rfl dL_law_354 ((pF 0 (by omega) (by omega) (by omega)).trans hs) rfl (by omega) (by omega) ?_
  refine sw_aload_n (pc' := 356) rfl dL_law_355 rfl ?_
  refine sw_iload (pc' := 358) rfl dL_law_356 rfl ?_
  refine sw_iconst (pc' := 359) (v := 3) rfl dL_law_358 (by decide +kernel) ?_
  refine sw_iadd (pc' := 360) rfl dL_law_359 ?_
  rw [show (nI i) + 3 = nI (i + 3) from nI_add _ _]
  refine sw_iald (j := i + 3) (pc' := 361) rfl dL_law_360 ((pF 0 (by omega) (by omega) (by omega)).trans hs) rfl (by omega) (by omega) ?_
  refine sw_aload_n (pc' := 362) rfl dL_law_361 rfl ?_
  refine sw_iload (pc' := 364) rfl dL_law_362 rfl ?_
  refine sw_iconst (pc' := 365) (v := 4) rfl dL_law_364 (by decide +kernel) ?_
  refine sw_iadd (pc' := 366) rfl dL_law_365 ?_
  rw [show (nI i) + 4 = nI (i + 4) from nI_add _ _]
  refine sw_iald (j := i + 4) (pc' := 367) rfl dL_law_366 ((pF 0 (by omega) (by omega) (by omega)).trans hs) rfl (by omega) (by omega) ?_
  refine sw_aload_n (pc' := 368) rfl dL_law_367 rfl ?_
  refine sw_iload (pc' := 370) rfl dL_law_368 rfl ?_
  refine sw_iconst (pc' := 371) (v := 5) rfl dL_law_370 (by decide +kernel) ?_
  refine sw_iadd (pc' := 372) rfl dL_law_371 ?_
  rw [show (nI i) + 5 = nI (i + 5) from nI_add _ _]
  refine sw_iald (j := i + 5) (pc' := 373) rfl dL_law_372 ((pF 0 (by omega) (by omega) (by omega)).trans hs) rfl (by omega) (by omega) ?_
  have hQ2 := hQ.fr (fun i a b => pF i (by omega) (by omega) (by omega))
  obtain ⟨ρ, τ, hM, hA⟩ := id hQ2
  refine sw_V (M' := MX5_putAll) (d' := d - 1) (bc' := 1) (bs' := 12) (ci := 6) (as := [_, _, _, _, _]) dL_law_373 w_1203 ok_X5_putAll (q_putAll hQ2 (hV.iv hN) (by omega) (by omega) (Nat.le_refl _) (Nat.le_refl _)) hM.ob rfl (by omega) (Nat.le_of_ble_eq_true rfl) (by omega) (by omega) (fun E h' n' _ z => pmc_x z) (pmc_k ox_putAll (fun u un ub uk uv uR uF => ?_))
  refine sw_istore (pc' := 378) (lv' := [(6, _), (5, _), (4, _), (3, _), (2, _), (1, _), (0, _)]) rfl dL_law_376 (by decide +kernel) rfl ?_
  refine sw_goto (tgt := 1944) dL_law_378 (by decide +kernel) ?_
  have J : LI L xs u un (opPutAll σ (xs (i + 1)) (xs (i + 2)) (xs (i + 3)) (xs (i + 4)) (xs (i + 5))).2 (N + 12) := ⟨pR.frT (fun i hi => uF i (by omega) (by omega)), ⟨_, uR⟩, hT.fr (fun i hi => (uF i (by omega) (by omega)).trans (pF i (by omega) (by omega) (by omega))), iv_putAll hV, ⟨_, _, (uF 158 (by omega) (by omega)).trans pO⟩, (uF 0 (by omega) (by omega)).trans ((pF 0 (by omega) (by omega) (by omega)).trans hs), by omega⟩
  exact SW.pick [2, 3, 4, 5, 6] rfl ((K u un _ (by omega) J).bud (by omega) (by omega))
theorem lc_2 {L : Nat} {xs : Nat → Int32} {h : AH} {n i N d bc bs : Nat} {σ : CS} {Post : ARes → AH → Nat → Prop} (hI : LI L xs h n σ N) (hN : N < 2 ^ 31) (hL : L ≤ 3072) (hi : i + 6 ≤ L) (hd : 20 ≤ d) (h1 : 380 ≤ bc) (h2 : 4500 ≤ bs) (K : ∀ (h' : AH) (n' : Nat) (σ' : CS), n ≤ n' → LI L xs h' n' σ' (N + 12) → SW SR0 ML_law d (bc - 380) (bs - 4500) 1944 [(4, .int (nI i)), (3, .ref 158), (2, .ref 135), (1, .ref 100), (0, .ref 0)] [] h' n' Post) : SW SR0 ML_law d bc bs 381 [(4, .int (nI i)), (3, .ref 158), (2, .ref 135), (1, .ref 100), (0, .ref 0)] [] h n Post := by
  obtain ⟨hR, ⟨th, hQ⟩, hT, hV, ⟨w, s, hO⟩, hs, hn⟩ := hI
  refine sw_aload_n (pc' := 382) rfl dL_law_381 rfl ?_
  refine sw_aload_n (pc' := 383) rfl dL_law_382 rfl ?_
  refine sw_iload (pc' := 385) rfl dL_law_383 rfl ?_
  refine sw_iconst (pc' := 386) (v := 1) rfl dL_law_385 (by decide +kernel) ?_
  refine sw_iadd (pc' := 387) rfl dL_law_386 ?_
  rw [show (nI i) + 1 = nI (i + 1) from nI_add _ _]
  refine sw_iald (j := i + 1) (pc' := 388) rfl dL_law_387 hs rfl (by omega) (by omega) ?_
  refine sw_aload_n (pc' := 389) rfl dL_law_388 rfl ?_
  refine sw_iload (pc' := 391) rfl dL_law_389 rfl ?_
  refine sw_iconst (pc' := 392) (v := 2) rfl dL_law_391 (by decide +kernel) ?_
  refine sw_iadd (pc' := 393) rfl dL_law_392 ?_
  rw [show (nI i) + 2 = nI (i + 2) from nI_add _ _]
  refine sw_iald (j := i + 2) (pc' := 394) rfl dL_law_393 hs rfl (by omega) (by omega) ?_
  refine sw_aload_n (pc' := 395) rfl dL_law_394 rfl ?_
  refine sw_S (M' := ML_take) (d' := d - 1) (bc' := 60) (bs' := 400) (as := [_, _, _, _]) dL_law_395 w_474 ok_L_take (L_take hR hT hV hN hO hn (by omega) (Nat.le_refl _) (Nat.le_refl _)) (by omega) (Nat.le_of_ble_eq_true rfl) (by omega) (by omega) (fun E h' n' _ z => lpo_x z) (lpo_k (fun p pn pw ps pk pR pO pv pF => ?_))
  refine sw_istore (pc' := 400) (lv' := [(5, _), (4, _), (3, _), (2, _), (1, _), (0, _)]) rfl dL_law_398 (by decide +kernel) rfl ?_
  refine sw_aload_n (pc' := 401) rfl dL_law_400 rfl ?_
  refine sw_aload_n (pc' := 402) rfl dL_law_401 rfl ?_
  refine sw_iload (pc' := 404) rfl dL_law_402 rfl ?_
  refine sw_iconst (pc' := 405) (v := 1) rfl dL_law_404 (by decide +kernel) ?_
  refine sw_iadd (pc' := 406) rfl dL_law_405 ?_
  rw [show (nI i) + 1 = nI (i + 1) from nI_add _ _]
  refine sw_iald (j := i + 1) (pc' := 407) rfl dL_law_406 ((pF 0 (by omega) (by omega) (by omega)).trans hs) rfl (by omega) (by omega) ?_
  refine sw_aload_n (pc' := 408) rfl dL_law_407 rfl ?_
  refine sw_iload (pc' := 410) rfl dL_law_408 rfl ?_
  refine sw_iconst (pc' := 411) (v := 2) rfl dL_law_410 (by decide +kernel) ?_
  refine sw_iadd (pc' := 412) rfl dL_law_411 ?_
  rw [show (nI i) + 2 = nI (i + 2) from nI_add _ _]
  refine sw_iald (j := i + 2) (pc' := 413) rfl dL_law_412 ((pF 0 (by omega) (by omega) (by omega)).trans hs) rfl (by omega) (by omega) ?_
  have hQ2 := hQ.fr (fun i a b => pF i (by omega) (by omega) (by omega))
  obtain ⟨ρ, τ, hM, hA⟩ := id hQ2
  refine sw_V (M' := MX5_take) (d' := d - 1) (bc' := 1) (bs' := 12) (ci := 6) (as := [_, _]) dL_law_413 w_1211 ok_X5_take (q_take hQ2 (hV.iv hN) (by omega) (by omega) (Nat.le_refl _) (Nat.le_refl _)) hM.ob rfl (by omega) (Nat.le_of_ble_eq_true rfl) (by omega) (by omega) (fun E h' n' _ z => pmc_x z) (pmc_k ox_take (fun u un ub uk uv uR uF => ?_))
  refine sw_istore (pc' := 418) (lv' := [(6, _), (5, _), (4, _), (3, _), (2, _), (1, _), (0, _)]) rfl dL_law_416 (by decide +kernel) rfl ?_
  refine sw_goto (tgt := 1944) dL_law_418 (by decide +kernel) ?_
  have J : LI L xs u un (opTake σ (xs (i + 1)) (xs (i + 2))).2 (N + 12) := ⟨pR.frT (fun i hi => uF i (by omega) (by omega)), ⟨_, uR⟩, hT.fr (fun i hi => (uF i (by omega) (by omega)).trans (pF i (by omega) (by omega) (by omega))), iv_take hV, ⟨_, _, (uF 158 (by omega) (by omega)).trans pO⟩, (uF 0 (by omega) (by omega)).trans ((pF 0 (by omega) (by omega) (by omega)).trans hs), by omega⟩
  exact SW.pick [2, 3, 4, 5, 6] rfl ((K u un _ (by omega) J).bud (by omega) (by omega))
theorem lc_3 {L : Nat} {xs : Nat → Int32} {h : AH} {n i N d bc bs : Nat} {σ : CS} {Post : ARes → AH → Nat → Prop} (hI : LI L xs h n σ N) (hN : N < 2 ^ 31) (hL : L ≤ 3072) (hi : i + 6 ≤ L) (hd : 20 ≤ d) (h1 : 380 ≤ bc) (h2 : 4500 ≤ bs) (K : ∀ (h' : AH) (n' : Nat) (σ' : CS), n ≤ n' → LI L xs h' n' σ' (N + 12) → SW SR0 ML_law d (bc - 380) (bs - 4500) 1944 [(4, .int (nI i)), (3, .ref 158), (2, .ref 135), (1, .ref 100), (0, .ref 0)] [] h' n' Post) : SW SR0 ML_law d bc bs 421 [(4, .int (nI i)), (3, .ref 158), (2, .ref 135), (1, .ref 100), (0, .ref 0)] [] h n Post := by
  obtain ⟨hR, ⟨th, hQ⟩, hT, hV, ⟨w, s, hO⟩, hs, hn⟩ := hI
  refine sw_aload_n (pc' := 422) rfl dL_law_421 rfl ?_
  refine sw_aload_n (pc' := 423) rfl dL_law_422 rfl ?_
  refine sw_iload (pc' := 425) rfl dL_law_423 rfl ?_
  refine sw_iconst (pc' := 426) (v := 1) rfl dL_law_425 (by decide +kernel) ?_
  refine sw_iadd (pc' := 427) rfl dL_law_426 ?_
  rw [show (nI i) + 1 = nI (i + 1) from nI_add _ _]
  refine sw_iald (j := i + 1) (pc' := 428) rfl dL_law_427 hs rfl (by omega) (by omega) ?_
  refine sw_aload_n (pc' := 429) rfl dL_law_428 rfl ?_
  refine sw_S (M' := ML_clear) (d' := d - 1) (bc' := 60) (bs' := 400) (as := [_, _, _]) dL_law_429 w_490 ok_L_clear (L_clear hR hT hV hN hO hn (by omega) (Nat.le_refl _) (Nat.le_refl _)) (by omega) (Nat.le_of_ble_eq_true rfl) (by omega) (by omega) (fun E h' n' _ z => lpo_x z) (lpo_k (fun p pn pw ps pk pR pO pv pF => ?_))
  refine sw_istore (pc' := 434) (lv' := [(5, _), (4, _), (3, _), (2, _), (1, _), (0, _)]) rfl dL_law_432 (by decide +kernel) rfl ?_
  refine sw_aload_n (pc' := 435) rfl dL_law_434 rfl ?_
  refine sw_aload_n (pc' := 436) rfl dL_law_435 rfl ?_
  refine sw_iload (pc' := 438) rfl dL_law_436 rfl ?_
  refine sw_iconst (pc' := 439) (v := 1) rfl dL_law_438 (by decide +kernel) ?_
  refine sw_iadd (pc' := 440) rfl dL_law_439 ?_
  rw [show (nI i) + 1 = nI (i + 1) from nI_add _ _]
  refine sw_iald (j := i + 1) (pc' := 441) rfl dL_law_440 ((pF 0 (by omega) (by omega) (by omega)).trans hs) rfl (by omega) (by omega) ?_
  have hQ2 := hQ.fr (fun i a b => pF i (by omega) (by omega) (by omega))
  obtain ⟨ρ, τ, hM, hA⟩ := id hQ2
  refine sw_V (M' := MX5_clear) (d' := d - 1) (bc' := 1) (bs' := 12) (ci := 6) (as := [_]) dL_law_441 w_1231 ok_X5_clear (q_clear hQ2 (hV.iv hN) (by omega) (by omega) (Nat.le_refl _) (Nat.le_refl _)) hM.ob rfl (by omega) (Nat.le_of_ble_eq_true rfl) (by omega) (by omega) (fun E h' n' _ z => pmc_x z) (pmc_k ox_clear (fun u un ub uk uv uR uF => ?_))
  refine sw_istore (pc' := 446) (lv' := [(6, _), (5, _), (4, _), (3, _), (2, _), (1, _), (0, _)]) rfl dL_law_444 (by decide +kernel) rfl ?_
  refine sw_goto (tgt := 1944) dL_law_446 (by decide +kernel) ?_
  have J : LI L xs u un (opClear σ (xs (i + 1))).2 (N + 12) := ⟨pR.frT (fun i hi => uF i (by omega) (by omega)), ⟨_, uR⟩, hT.fr (fun i hi => (uF i (by omega) (by omega)).trans (pF i (by omega) (by omega) (by omega))), iv_clear hV, ⟨_, _, (uF 158 (by omega) (by omega)).trans pO⟩, (uF 0 (by omega) (by omega)).trans ((pF 0 (by omega) (by omega) (by omega)).trans hs), by omega⟩
  exact SW.pick [2, 3, 4, 5, 6] rfl ((K u un _ (by omega) J).bud (by omega) (by omega))
theorem lc_4 {L : Nat} {xs : Nat → Int32} {h : AH} {n i N d bc bs : Nat} {σ : CS} {Post : ARes → AH → Nat → Prop} (hI : LI L xs h n σ N) (hN : N < 2 ^ 31) (hL : L ≤ 3072) (hi : i + 6 ≤ L) (hd : 20 ≤ d) (h1 : 380 ≤ bc) (h2 : 4500 ≤ bs) (K : ∀ (h' : AH) (n' : Nat) (σ' : CS), n ≤ n' → LI L xs h' n' σ' (N + 12) → SW SR0 ML_law d (bc - 380) (bs - 4500) 1944 [(4, .int (nI i)), (3, .ref 158), (2, .ref 135), (1, .ref 100), (0, .ref 0)] [] h' n' Post) : SW SR0 ML_law d bc bs 449 [(4, .int (nI i)), (3, .ref 158), (2, .ref 135), (1, .ref 100), (0, .ref 0)] [] h n Post := by
  obtain ⟨hR, ⟨th, hQ⟩, hT, hV, ⟨w, s, hO⟩, hs, hn⟩ := hI
  refine sw_aload_n (pc' := 450) rfl dL_law_449 rfl ?_
  refine sw_aload_n (pc' := 451) rfl dL_law_450 rfl ?_
  refine sw_iload (pc' := 453) rfl dL_law_451 rfl ?_
  refine sw_iconst (pc' := 454) (v := 1) rfl dL_law_453 (by decide +kernel) ?_
  refine sw_iadd (pc' := 455) rfl dL_law_454 ?_
  rw [show (nI i) + 1 = nI (i + 1) from nI_add _ _]
  refine sw_iald (j := i + 1) (pc' := 456) rfl dL_law_455 hs rfl (by omega) (by omega) ?_
  refine sw_aload_n (pc' := 457) rfl dL_law_456 rfl ?_
  refine sw_iload (pc' := 459) rfl dL_law_457 rfl ?_
  refine sw_iconst (pc' := 460) (v := 2) rfl dL_law_459 (by decide +kernel) ?_
  refine sw_iadd (pc' := 461) rfl dL_law_460 ?_
  rw [show (nI i) + 2 = nI (i + 2) from nI_add _ _]
  refine sw_iald (j := i + 2) (pc' := 462) rfl dL_law_461 hs rfl (by omega) (by omega) ?_
  refine sw_aload_n (pc' := 463) rfl dL_law_462 rfl ?_
  refine sw_S (M' := ML_pair) (d' := d - 1) (bc' := 60) (bs' := 400) (as := [_, _, _, _]) dL_law_463 w_501 ok_L_pair (L_pair hR hT hV hN hO hn (by omega) (Nat.le_refl _) (Nat.le_refl _)) (by omega) (Nat.le_of_ble_eq_true rfl) (by omega) (by omega) (fun E h' n' _ z => lpo_x z) (lpo_k (fun p pn pw ps pk pR pO pv pF => ?_))
  refine sw_istore (pc' := 468) (lv' := [(5, _), (4, _), (3, _), (2, _), (1, _), (0, _)]) rfl dL_law_466 (by decide +kernel) rfl ?_
  refine sw_aload_n (pc' := 469) rfl dL_law_468 rfl ?_
  refine sw_aload_n (pc' := 470) rfl dL_law_469 rfl ?_
  refine sw_iload (pc' := 472) rfl dL_law_470 rfl ?_
  refine sw_iconst (pc' := 473) (v := 1) rfl dL_law_472 (by decide +kernel) ?_
  refine sw_iadd (pc' := 474) rfl dL_law_473 ?_
  rw [show (nI i) + 1 = nI (i + 1) from nI_add _ _]
  refine sw_iald (j := i + 1) (pc' := 475) rfl dL_law_474 ((pF 0 (by omega) (by omega) (by omega)).trans hs) rfl (by omega) (by omega) ?_
  refine sw_aload_n (pc' := 476) rfl dL_law_475 rfl ?_
  refine sw_iload (pc' := 478) rfl dL_law_476 rfl ?_
  refine sw_iconst (pc' := 479) (v := 2) rfl dL_law_478 (by decide +kernel) ?_
  refine sw_iadd (pc' := 480) rfl dL_law_479 ?_
  rw [show (nI i) + 2 = nI (i + 2) from nI_add _ _]
  refine sw_iald (j := i + 2) (pc' := 481) rfl dL_law_480 ((pF 0 (by omega) (by omega) (by omega)).trans hs) rfl (by omega) (by omega) ?_
  have hQ2 := hQ.fr (fun i a b => pF i (by omega) (by omega) (by omega))
  obtain ⟨ρ, τ, hM, hA⟩ := id hQ2
  refine sw_V (M' := MX5_pair) (d' := d - 1) (bc' := 1) (bs' := 12) (ci := 6) (as := [_, _]) dL_law_481 w_1243 ok_X5_pair (q_pair hQ2 (hV.iv hN) (by omega) (by omega) (Nat.le_refl _) (Nat.le_refl _)) hM.ob rfl (by omega) (Nat.le_of_ble_eq_true rfl) (by omega) (by omega) (fun E h' n' _ z => pmc_x z) (pmc_k ox_pair (fun u un ub uk uv uR uF => ?_))
  refine sw_istore (pc' := 486) (lv' := [(6, _), (5, _), (4, _), (3, _), (2, _), (1, _), (0, _)]) rfl dL_law_484 (by decide +kernel) rfl ?_
  refine sw_goto (tgt := 1944) dL_law_486 (by decide +kernel) ?_
  have J : LI L xs u un (opPair σ (xs (i + 1)) (xs (i + 2))).2 (N + 12) := ⟨pR.frT (fun i hi => uF i (by omega) (by omega)), ⟨_, uR⟩, hT.fr (fun i hi => (uF i (by omega) (by omega)).trans (pF i (by omega) (by omega) (by omega))), iv_pair hV, ⟨_, _, (uF 158 (by omega) (by omega)).trans pO⟩, (uF 0 (by omega) (by omega)).trans ((pF 0 (by omega) (by omega) (by omega)).trans hs), by omega⟩
  exact SW.pick [2, 3, 4, 5, 6] rfl ((K u un _ (by omega) J).bud (by omega) (by omega))
theorem lc_5 {L : Nat} {xs : Nat → Int32} {h : AH} {n i N d bc bs : Nat} {σ : CS} {Post : ARes → AH → Nat → Prop} (hI : LI L xs h n σ N) (hN : N < 2 ^ 31) (hL : L ≤ 3072) (hi : i + 6 ≤ L) (hd : 20 ≤ d) (h1 : 380 ≤ bc) (h2 : 4500 ≤ bs) (K : ∀ (h' : AH) (n' : Nat) (σ' : CS), n ≤ n' → LI L xs h' n' σ' (N + 12) → SW SR0 ML_law d (bc - 380) (bs - 4500) 1944 [(4, .int (nI i)), (3, .ref 158), (2, .ref 135), (1, .ref 100), (0, .ref 0)] [] h' n' Post) : SW SR0 ML_law d bc bs 489 [(4, .int (nI i)), (3, .ref 158), (2, .ref 135), (1, .ref 100), (0, .ref 0)] [] h n Post := by
  obtain ⟨hR, ⟨th, hQ⟩, hT, hV, ⟨w, s, hO⟩, hs, hn⟩ := hI
  refine sw_aload_n (pc' := 490) rfl dL_law_489 rfl ?_
  refine sw_aload_n (pc' := 491) rfl dL_law_490 rfl ?_
  refine sw_iload (pc' := 493) rfl dL_law_491 rfl ?_
  refine sw_iconst (pc' := 494) (v := 1) rfl dL_law_493 (by decide +kernel) ?_
  refine sw_iadd (pc' := 495) rfl dL_law_494 ?_
  rw [show (nI i) + 1 = nI (i + 1) from nI_add _ _]
  refine sw_iald (j := i + 1) (pc' := 496) rfl dL_law_495 hs rfl (by omega) (by omega) ?_
  refine sw_aload_n (pc' := 497) rfl dL_law_496 rfl ?_
  refine sw_iload (pc' := 499) rfl dL_law_497 rfl ?_
  refine sw_iconst (pc' := 500) (v := 2) rfl dL_law_499 (by decide +kernel) ?_
  refine sw_iadd (pc' := 501) rfl dL_law_500 ?_
  rw [show (nI i) + 2 = nI (i + 2) from nI_add _ _]
  refine sw_iald (j := i + 2) (pc' := 502) rfl dL_law_501 hs rfl (by omega) (by omega) ?_
  refine sw_aload_n (pc' := 503) rfl dL_law_502 rfl ?_
  refine sw_S (M' := ML_pour) (d' := d - 1) (bc' := 60) (bs' := 400) (as := [_, _, _, _]) dL_law_503 w_517 ok_L_pour (L_pour hR hT hV hN hO hn (by omega) (Nat.le_refl _) (Nat.le_refl _)) (by omega) (Nat.le_of_ble_eq_true rfl) (by omega) (by omega) (fun E h' n' _ z => lpo_x z) (lpo_k (fun p pn pw ps pk pR pO pv pF => ?_))
  refine sw_istore (pc' := 508) (lv' := [(5, _), (4, _), (3, _), (2, _), (1, _), (0, _)]) rfl dL_law_506 (by decide +kernel) rfl ?_
  refine sw_aload_n (pc' := 509) rfl dL_law_508 rfl ?_
  refine sw_aload_n (pc' := 510) rfl dL_law_509 rfl ?_
  refine sw_iload (pc' := 512) rfl dL_law_510 rfl ?_
  refine sw_iconst (pc' := 513) (v := 1) rfl dL_law_512 (by decide +kernel) ?_
  refine sw_iadd (pc' := 514) rfl dL_law_513 ?_
  rw [show (nI i) + 1 = nI (i + 1) from nI_add _ _]
  refine sw_iald (j := i + 1) (pc' := 515) rfl dL_law_514 ((pF 0 (by omega) (by omega) (by omega)).trans hs) rfl (by omega) (by omega) ?_
  refine sw_aload_n (pc' := 516) rfl dL_law_515 rfl ?_
  refine sw_iload (pc' := 518) rfl dL_law_516 rfl ?_
  refine sw_iconst (pc' := 519) (v := 2) rfl dL_law_518 (by decide +kernel) ?_
  refine sw_iadd (pc' := 520) rfl dL_law_519 ?_
  rw [show (nI i) + 2 = nI (i + 2) from nI_add _ _]
  refine sw_iald (j := i + 2) (pc' := 521) rfl dL_law_520 ((pF 0 (by omega) (by omega) (by omega)).trans hs) rfl (by omega) (by omega) ?_
  have hQ2 := hQ.fr (fun i a b => pF i (by omega) (by omega) (by omega))
  obtain ⟨ρ, τ, hM, hA⟩ := id hQ2
  refine sw_V (M' := MX5_pour) (d' := d - 1) (bc' := 1) (bs' := 12) (ci := 6) (as := [_, _]) dL_law_521 w_1247 ok_X5_pour (q_pour hQ2 (hV.iv hN) (by omega) (by omega) (Nat.le_refl _) (Nat.le_refl _)) hM.ob rfl (by omega) (Nat.le_of_ble_eq_true rfl) (by omega) (by omega) (fun E h' n' _ z => pmc_x z) (pmc_k ox_pour (fun u un ub uk uv uR uF => ?_))
  refine sw_istore (pc' := 526) (lv' := [(6, _), (5, _), (4, _), (3, _), (2, _), (1, _), (0, _)]) rfl dL_law_524 (by decide +kernel) rfl ?_
  refine sw_goto (tgt := 1944) dL_law_526 (by decide +kernel) ?_
  have J : LI L xs u un (opPour σ (xs (i + 1)) (xs (i + 2))).2 (N + 12) := ⟨pR.frT (fun i hi => uF i (by omega) (by omega)), ⟨_, uR⟩, hT.fr (fun i hi => (uF i (by omega) (by omega)).trans (pF i (by omega) (by omega) (by omega))), iv_pour hV, ⟨_, _, (uF 158 (by omega) (by omega)).trans pO⟩, (uF 0 (by omega) (by omega)).trans ((pF 0 (by omega) (by omega) (by omega)).trans hs), by omega⟩
  exact SW.pick [2, 3, 4, 5, 6] rfl ((K u un _ (by omega) J).bud (by omega) (by omega))
theorem lc_6 {L : Nat} {xs : Nat → Int32} {h : AH} {n i N d bc bs : Nat} {σ : CS} {Post : ARes → AH → Nat → Prop} (hI : LI L xs h n σ N) (hN : N < 2 ^ 31) (hL : L ≤ 3072) (hi : i + 6 ≤ L) (hd : 20 ≤ d) (h1 : 380 ≤ bc) (h2 : 4500 ≤ bs) (K : ∀ (h' : AH) (n' : Nat) (σ' : CS), n ≤ n' → LI L xs h' n' σ' (N + 12) → SW SR0 ML_law d (bc - 380) (bs - 4500) 1944 [(4, .int (nI i)), (3, .ref 158), (2, .ref 135), (1, .ref 100), (0, .ref 0)] [] h' n' Post) : SW SR0 ML_law d bc bs 529 [(4, .int (nI i)), (3, .ref 158), (2, .ref 135), (1, .ref 100), (0, .ref 0)] [] h n Post := by
  obtain ⟨hR, ⟨th, hQ⟩, hT, hV, ⟨w, s, hO⟩, hs, hn⟩ := hI
  refine sw_aload_n (pc' := 530) rfl dL_law_529 rfl ?_
  refine sw_aload_n (pc' := 531) rfl dL_law_530 rfl ?_
  refine sw_iload (pc' := 533) rfl dL_law_531 rfl ?_
  refine sw_iconst (pc' := 534) (v := 1) rfl dL_law_533 (by decide +kernel) ?_
  refine sw_iadd (pc' := 535) rfl dL_law_534 ?_
  rw [show (nI i) + 1 = nI (i + 1) from nI_add _ _]
  refine sw_iald (j := i + 1) (pc' := 536) rfl dL_law_535 hs rfl (by omega) (by omega) ?_
  refine sw_aload_n (pc' := 537) rfl dL_law_536 rfl ?_
  refine sw_iload (pc' := 539) rfl dL_law_537 rfl ?_
  refine sw_iconst (pc' := 540) (v := 2) rfl dL_law_539 (by decide +kernel) ?_
  refine sw_iadd (pc' := 541) rfl dL_law_540 ?_
  rw [show (nI i) + 2 = nI (i + 2) from nI_add _ _]
  refine sw_iald (j := i + 2) (pc' := 542) rfl dL_law_541 hs rfl (by omega) (by omega) ?_
  refine sw_aload_n (pc' := 543) rfl dL_law_542 rfl ?_
  refine sw_iload (pc' := 545) rfl dL_law_543 rfl ?_
  refine sw_iconst (pc' := 546) (v := 3) rfl dL_law_545 (by decide +kernel) ?_
  refine sw_iadd (pc' := 547) rfl dL_law_546 ?_
  rw [show (nI i) + 3 = nI (i + 3) from nI_add _ _]
  refine sw_iald (j := i + 3) (pc' := 548) rfl dL_law_547 hs rfl (by omega) (by omega) ?_
  refine sw_aload_n (pc' := 549) rfl dL_law_548 rfl ?_
  refine sw_S (M' := ML_change) (d' := d - 1) (bc' := 60) (bs' := 400) (as := [_, _, _, _, _]) dL_law_549 w_534 ok_L_change (L_change hR hT hV hN hO hn (by omega) (Nat.le_refl _) (Nat.le_refl _)) (by omega) (Nat.le_of_ble_eq_true rfl) (by omega) (by omega) (fun E h' n' _ z => lpo_x z) (lpo_k (fun p pn pw ps pk pR pO pv pF => ?_))
  refine sw_istore (pc' := 554) (lv' := [(5, _), (4, _), (3, _), (2, _), (1, _), (0, _)]) rfl dL_law_552 (by decide +kernel) rfl ?_
  refine sw_aload_n (pc' := 555) rfl dL_law_554 rfl ?_
  refine sw_aload_n (pc' := 556) rfl dL_law_555 rfl ?_
  refine sw_iload (pc' := 558) rfl dL_law_556 rfl ?_
  refine sw_iconst (pc' := 559) (v := 1) rfl dL_law_558 (by decide +kernel) ?_
  refine sw_iadd (pc' := 560) rfl dL_law_559 ?_
  rw [show (nI i) + 1 = nI (i + 1) from nI_add _ _]
  refine sw_iald (j := i + 1) (pc' := 561) rfl dL_law_560 ((pF 0 (by omega) (by omega) (by omega)).trans hs) rfl (by omega) (by omega) ?_
  refine sw_aload_n (pc' := 562) rfl dL_law_561 rfl ?_
  refine sw_iload (pc' := 564) rfl dL_law_562 rfl ?_
  refine sw_iconst (pc' := 565) (v := 2) rfl dL_law_564 (by decide +kernel) ?_
  refine sw_iadd (pc' := 566) rfl dL_law_565 ?_
  rw [show (nI i) + 2 = nI (i + 2) from nI_add _ _]
  refine sw_iald (j := i + 2) (pc' := 567) rfl dL_law_566 ((pF 0 (by omega) (by omega) (by omega)).trans hs) rfl (by omega) (by omega) ?_
  refine sw_aload_n (pc' := 568) rfl dL_law_567 rfl ?_
  refine sw_iload (pc' := 570) rfl dL_law_568 rfl ?_
  refine sw_iconst (pc' := 571) (v := 3) rfl dL_law_570 (by decide +kernel) ?_
  refine sw_iadd (pc' := 572) rfl dL_law_571 ?_
  rw [show (nI i) + 3 = nI (i + 3) from nI_add _ _]
  refine sw_iald (j := i + 3) (pc' := 573) rfl dL_law_572 ((pF 0 (by omega) (by omega) (by omega)).trans hs) rfl (by omega) (by omega) ?_
  have hQ2 := hQ.fr (fun i a b => pF i (by omega) (by omega) (by omega))
  obtain ⟨ρ, τ, hM, hA⟩ := id hQ2
  refine sw_V (M' := MX5_change) (d' := d - 1) (bc' := 1) (bs' := 12) (ci := 6) (as := [_, _, _]) dL_law_573 w_1259 ok_X5_change (q_change hQ2 (hV.iv hN) (by omega) (by omega) (Nat.le_refl _) (Nat.le_refl _)) hM.ob rfl (by omega) (Nat.le_of_ble_eq_true rfl) (by omega) (by omega) (fun E h' n' _ z => pmc_x z) (pmc_k ox_change (fun u un ub uk uv uR uF => ?_))
  refine sw_istore (pc' := 578) (lv' := [(6, _), (5, _), (4, _), (3, _), (2, _), (1, _), (0, _)]) rfl dL_law_576 (by decide +kernel) rfl ?_
  refine sw_goto (tgt := 1944) dL_law_578 (by decide +kernel) ?_
  have J : LI L xs u un (opChange σ (xs (i + 1)) (xs (i + 2)) (xs (i + 3))).2 (N + 12) := ⟨pR.frT (fun i hi => uF i (by omega) (by omega)), ⟨_, uR⟩, hT.fr (fun i hi => (uF i (by omega) (by omega)).trans (pF i (by omega) (by omega) (by omega))), iv_change hV, ⟨_, _, (uF 158 (by omega) (by omega)).trans pO⟩, (uF 0 (by omega) (by omega)).trans ((pF 0 (by omega) (by omega) (by omega)).trans hs), by omega⟩
  exact SW.pick [2, 3, 4, 5, 6] rfl ((K u un _ (by omega) J).bud (by omega) (by omega))
theorem lc_7 {L : Nat} {xs : Nat → Int32} {h : AH} {n i N d bc bs : Nat} {σ : CS} {Post : ARes → AH → Nat → Prop} (hI : LI L xs h n σ N) (hN : N < 2 ^ 31) (hL : L ≤ 3072) (hi : i + 6 ≤ L) (hd : 20 ≤ d) (h1 : 380 ≤ bc) (h2 : 4500 ≤ bs) (K : ∀ (h' : AH) (n' : Nat) (σ' : CS), n ≤ n' → LI L xs h' n' σ' (N + 12) → SW SR0 ML_law d (bc - 380) (bs - 4500) 1944 [(4, .int (nI i)), (3, .ref 158), (2, .ref 135), (1, .ref 100), (0, .ref 0)] [] h' n' Post) : SW SR0 ML_law d bc bs 581 [(4, .int (nI i)), (3, .ref 158), (2, .ref 135), (1, .ref 100), (0, .ref 0)] [] h n Post := by
  obtain ⟨hR, ⟨th, hQ⟩, hT, hV, ⟨w, s, hO⟩, hs, hn⟩ := hI
  refine sw_aload_n (pc' := 582) rfl dL_law_581 rfl ?_
  refine sw_aload_n (pc' := 583) rfl dL_law_582 rfl ?_
  refine sw_iload (pc' := 585) rfl dL_law_583 rfl ?_
  refine sw_iconst (pc' := 586) (v := 1) rfl dL_law_585 (by decide +kernel) ?_
  refine sw_iadd (pc' := 587) rfl dL_law_586 ?_
  rw [show (nI i) + 1 = nI (i + 1) from nI_add _ _]
  refine sw_iald (j := i + 1) (pc' := 588) rfl dL_law_587 hs rfl (by omega) (by omega) ?_
  refine sw_aload_n (pc' := 589) rfl dL_law_588 rfl ?_
  refine sw_iload (pc' := 591) rfl dL_law_589 rfl ?_
  refine sw_iconst (pc' := 592) (v := 2) rfl dL_law_591 (by decide +kernel) ?_
  refine sw_iadd (pc' := 593) rfl dL_law_592 ?_
  rw [show (nI i) + 2 = nI (i + 2) from nI_add _ _]
  refine sw_iald (j := i + 2) (pc' := 594) rfl dL_law_593 hs rfl (by omega) (by omega) ?_
  refine sw_aload_n (pc' := 595) rfl dL_law_594 rfl ?_
  refine sw_iload (pc' := 597) rfl dL_law_595 rfl ?_
  refine sw_iconst (pc' := 598) (v := 3) rfl dL_law_597 (by decide +kernel) ?_
  refine sw_iadd (pc' := 599) rfl dL_law_598 ?_
  rw [show (nI i) + 3 = nI (i + 3) from nI_add _ _]
  refine sw_iald (j := i + 3) (pc' := 600) rfl dL_law_599 hs rfl (by omega) (by omega) ?_
  refine sw_aload_n (pc' := 601) rfl dL_law_600 rfl ?_
  refine sw_S (M' := ML_insert) (d' := d - 1) (bc' := 60) (bs' := 400) (as := [_, _, _, _, _]) dL_law_601 w_550 ok_L_insert (L_insert hR hT hV hN hO hn (by omega) (Nat.le_refl _) (Nat.le_refl _)) (by omega) (Nat.le_of_ble_eq_true rfl) (by omega) (by omega) (fun E h' n' _ z => lpo_x z) (lpo_k (fun p pn pw ps pk pR pO pv pF => ?_))
  refine sw_istore (pc' := 606) (lv' := [(5, _), (4, _), (3, _), (2, _), (1, _), (0, _)]) rfl dL_law_604 (by decide +kernel) rfl ?_
  refine sw_aload_n (pc' := 607) rfl dL_law_606 rfl ?_
  refine sw_aload_n (pc' := 608) rfl dL_law_607 rfl ?_
  refine sw_iload (pc' := 610) rfl dL_law_608 rfl ?_
  refine sw_iconst (pc' := 611) (v := 1) rfl dL_law_610 (by decide +kernel) ?_
  refine sw_iadd (pc' := 612) rfl dL_law_611 ?_
  rw [show (nI i) + 1 = nI (i + 1) from nI_add _ _]
  refine sw_iald (j := i + 1) (pc' := 613) rfl dL_law_612 ((pF 0 (by omega) (by omega) (by omega)).trans hs) rfl (by omega) (by omega) ?_
  refine sw_aload_n (pc' := 614) rfl dL_law_613 rfl ?_
  refine sw_iload (pc' := 616) rfl dL_law_614 rfl ?_
  refine sw_iconst (pc' := 617) (v := 2) rfl dL_law_616 (by decide +kernel) ?_
  refine sw_iadd (pc' := 618) rfl dL_law_617 ?_
  rw [show (nI i) + 2 = nI (i + 2) from nI_add _ _]
  refine sw_iald (j := i + 2) (pc' := 619) rfl dL_law_618 ((pF 0 (by omega) (by omega) (by omega)).trans hs) rfl (by omega) (by omega) ?_
  refine sw_aload_n (pc' := 620) rfl dL_law_619 rfl ?_
  refine sw_iload (pc' := 622) rfl dL_law_620 rfl ?_
  refine sw_iconst (pc' := 623) (v := 3) rfl dL_law_622 (by decide +kernel) ?_
  refine sw_iadd (pc' := 624) rfl dL_law_623 ?_
  rw [show (nI i) + 3 = nI (i + 3) from nI_add _ _]
  refine sw_iald (j := i + 3) (pc' := 625) rfl dL_law_624 ((pF 0 (by omega) (by omega) (by omega)).trans hs) rfl (by omega) (by omega) ?_
  have hQ2 := hQ.fr (fun i a b => pF i (by omega) (by omega) (by omega))
  obtain ⟨ρ, τ, hM, hA⟩ := id hQ2
  refine sw_V (M' := MX5_insert) (d' := d - 1) (bc' := 1) (bs' := 12) (ci := 6) (as := [_, _, _]) dL_law_625 w_1270 ok_X5_insert (q_insert hQ2 (hV.iv hN) (by omega) (by omega) (Nat.le_refl _) (Nat.le_refl _)) hM.ob rfl (by omega) (Nat.le_of_ble_eq_true rfl) (by omega) (by omega) (fun E h' n' _ z => pmc_x z) (pmc_k ox_insert (fun u un ub uk uv uR uF => ?_))
  refine sw_istore (pc' := 630) (lv' := [(6, _), (5, _), (4, _), (3, _), (2, _), (1, _), (0, _)]) rfl dL_law_628 (by decide +kernel) rfl ?_
  refine sw_goto (tgt := 1944) dL_law_630 (by decide +kernel) ?_
  have J : LI L xs u un (opInsert σ (xs (i + 1)) (xs (i + 2)) (xs (i + 3))).2 (N + 12) := ⟨pR.frT (fun i hi => uF i (by omega) (by omega)), ⟨_, uR⟩, hT.fr (fun i hi => (uF i (by omega) (by omega)).trans (pF i (by omega) (by omega) (by omega))), iv_insert hV, ⟨_, _, (uF 158 (by omega) (by omega)).trans pO⟩, (uF 0 (by omega) (by omega)).trans ((pF 0 (by omega) (by omega) (by omega)).trans hs), by omega⟩
  exact SW.pick [2, 3, 4, 5, 6] rfl ((K u un _ (by omega) J).bud (by omega) (by omega))
theorem lc_8 {L : Nat} {xs : Nat → Int32} {h : AH} {n i N d bc bs : Nat} {σ : CS} {Post : ARes → AH → Nat → Prop} (hI : LI L xs h n σ N) (hN : N < 2 ^ 31) (hL : L ≤ 3072) (hi : i + 6 ≤ L) (hd : 20 ≤ d) (h1 : 380 ≤ bc) (h2 : 4500 ≤ bs) (K : ∀ (h' : AH) (n' : Nat) (σ' : CS), n ≤ n' → LI L xs h' n' σ' (N + 12) → SW SR0 ML_law d (bc - 380) (bs - 4500) 1944 [(4, .int (nI i)), (3, .ref 158), (2, .ref 135), (1, .ref 100), (0, .ref 0)] [] h' n' Post) : SW SR0 ML_law d bc bs 633 [(4, .int (nI i)), (3, .ref 158), (2, .ref 135), (1, .ref 100), (0, .ref 0)] [] h n Post := by
  obtain ⟨hR, ⟨th, hQ⟩, hT, hV, ⟨w, s, hO⟩, hs, hn⟩ := hI
  refine sw_aload_n (pc' := 634) rfl dL_law_633 rfl ?_
  refine sw_aload_n (pc' := 635) rfl dL_law_634 rfl ?_
  refine sw_iload (pc' := 637) rfl dL_law_635 rfl ?_
  refine sw_iconst (pc' := 638) (v := 1) rfl dL_law_637 (by decide +kernel) ?_
  refine sw_iadd (pc' := 639) rfl dL_law_638 ?_
  rw [show (nI i) + 1 = nI (i + 1) from nI_add _ _]
  refine sw_iald (j := i + 1) (pc' := 640) rfl dL_law_639 hs rfl (by omega) (by omega) ?_
  refine sw_aload_n (pc' := 641) rfl dL_law_640 rfl ?_
  refine sw_iload (pc' := 643) rfl dL_law_641 rfl ?_
  refine sw_iconst (pc' := 644) (v := 2) rfl dL_law_643 (by decide +kernel) ?_
  refine sw_iadd (pc' := 645) rfl dL_law_644 ?_
  rw [show (nI i) + 2 = nI (i + 2) from nI_add _ _]
  refine sw_iald (j := i + 2) (pc' := 646) rfl dL_law_645 hs rfl (by omega) (by omega) ?_
  refine sw_aload_n (pc' := 647) rfl dL_law_646 rfl ?_
  refine sw_S (M' := ML_remove) (d' := d - 1) (bc' := 60) (bs' := 400) (as := [_, _, _, _]) dL_law_647 w_557 ok_L_remove (L_remove hR hT hV hN hO hn (by omega) (Nat.le_refl _) (Nat.le_refl _)) (by omega) (Nat.le_of_ble_eq_true rfl) (by omega) (by omega) (fun E h' n' _ z => lpo_x z) (lpo_k (fun p pn pw ps pk pR pO pv pF => ?_))
  refine sw_istore (pc' := 652) (lv' := [(5, _), (4, _), (3, _), (2, _), (1, _), (0, _)]) rfl dL_law_650 (by decide +kernel) rfl ?_
  refine sw_aload_n (pc' := 653) rfl dL_law_652 rfl ?_
  refine sw_aload_n (pc' := 654) rfl dL_law_653 rfl ?_
  refine sw_iload (pc' := 656) rfl dL_law_654 rfl ?_
  refine sw_iconst (pc' := 657) (v := 1) rfl dL_law_656 (by decide +kernel) ?_
  refine sw_iadd (pc' := 658) rfl dL_law_657 ?_
  rw [show (nI i) + 1 = nI (i + 1) from nI_add _ _]
  refine sw_iald (j := i + 1) (pc' := 659) rfl dL_law_658 ((pF 0 (by omega) (by omega) (by omega)).trans hs) rfl (by omega) (by omega) ?_
  refine sw_aload_n (pc' := 660) rfl dL_law_659 rfl ?_
  refine sw_iload (pc' := 662) rfl dL_law_660 rfl ?_
  refine sw_iconst (pc' := 663) (v := 2) rfl dL_law_662 (by decide +kernel) ?_
  refine sw_iadd (pc' := 664) rfl dL_law_663 ?_
  rw [show (nI i) + 2 = nI (i + 2) from nI_add _ _]
  refine sw_iald (j := i + 2) (pc' := 665) rfl dL_law_664 ((pF 0 (by omega) (by omega) (by omega)).trans hs) rfl (by omega) (by omega) ?_
  have hQ2 := hQ.fr (fun i a b => pF i (by omega) (by omega) (by omega))
  obtain ⟨ρ, τ, hM, hA⟩ := id hQ2
  refine sw_V (M' := MX5_remove) (d' := d - 1) (bc' := 1) (bs' := 12) (ci := 6) (as := [_, _]) dL_law_665 w_1274 ok_X5_remove (q_remove hQ2 (hV.iv hN) (by omega) (by omega) (Nat.le_refl _) (Nat.le_refl _)) hM.ob rfl (by omega) (Nat.le_of_ble_eq_true rfl) (by omega) (by omega) (fun E h' n' _ z => pmc_x z) (pmc_k ox_remove (fun u un ub uk uv uR uF => ?_))
  refine sw_istore (pc' := 670) (lv' := [(6, _), (5, _), (4, _), (3, _), (2, _), (1, _), (0, _)]) rfl dL_law_668 (by decide +kernel) rfl ?_
  refine sw_goto (tgt := 1944) dL_law_670 (by decide +kernel) ?_
  have J : LI L xs u un (opRemove σ (xs (i + 1)) (xs (i + 2))).2 (N + 12) := ⟨pR.frT (fun i hi => uF i (by omega) (by omega)), ⟨_, uR⟩, hT.fr (fun i hi => (uF i (by omega) (by omega)).trans (pF i (by omega) (by omega) (by omega))), iv_remove hV, ⟨_, _, (uF 158 (by omega) (by omega)).trans pO⟩, (uF 0 (by omega) (by omega)).trans ((pF 0 (by omega) (by omega) (by omega)).trans hs), by omega⟩
  exact SW.pick [2, 3, 4, 5, 6] rfl ((K u un _ (by omega) J).bud (by omega) (by omega))
theorem lc_9 {L : Nat} {xs : Nat → Int32} {h : AH} {n i N d bc bs : Nat} {σ : CS} {Post : ARes → AH → Nat → Prop} (hI : LI L xs h n σ N) (hN : N < 2 ^ 31) (hL : L ≤ 3072) (hi : i + 6 ≤ L) (hd : 20 ≤ d) (h1 : 380 ≤ bc) (h2 : 4500 ≤ bs) (K : ∀ (h' : AH) (n' : Nat) (σ' : CS), n ≤ n' → LI L xs h' n' σ' (N + 12) → SW SR0 ML_law d (bc - 380) (bs - 4500) 1944 [(4, .int (nI i)), (3, .ref 158), (2, .ref 135), (1, .ref 100), (0, .ref 0)] [] h' n' Post) : SW SR0 ML_law d bc bs 673 [(4, .int (nI i)), (3, .ref 158), (2, .ref 135), (1, .ref 100), (0, .ref 0)] [] h n Post := by
  obtain ⟨hR, ⟨th, hQ⟩, hT, hV, ⟨w, s, hO⟩, hs, hn⟩ := hI
  refine sw_aload_n (pc' := 674) rfl dL_law_673 rfl ?_
  refine sw_aload_n (pc' := 675) rfl dL_law_674 rfl ?_
  refine sw_iload (pc' := 677) rfl dL_law_675 rfl ?_
  refine sw_iconst (pc' := 678) (v := 1) rfl dL_law_677 (by decide +kernel) ?_
  refine sw_iadd (pc' := 679) rfl dL_law_678 ?_
  rw [show (nI i) + 1 = nI (i + 1) from nI_add _ _]
  refine sw_iald (j := i + 1) (pc' := 680) rfl dL_law_679 hs rfl (by omega) (by omega) ?_
  refine sw_aload_n (pc' := 681) rfl dL_law_680 rfl ?_
  refine sw_S (M' := ML_turn) (d' := d - 1) (bc' := 60) (bs' := 400) (as := [_, _, _]) dL_law_681 w_564 ok_L_turn (L_turn hR hT hV hN hO hn (by omega) (Nat.le_refl _) (Nat.le_refl _)) (by omega) (Nat.le_of_ble_eq_true rfl) (by omega) (by omega) (fun E h' n' _ z => lpo_x z) (lpo_k (fun p pn pw ps pk pR pO pv pF => ?_))
  refine sw_istore (pc' := 686) (lv' := [(5, _), (4, _), (3, _), (2, _), (1, _), (0, _)]) rfl dL_law_684 (by decide +kernel) rfl ?_
  refine sw_aload_n (pc' := 687) rfl dL_law_686 rfl ?_
  refine sw_aload_n (pc' := 688) rfl dL_law_687 rfl ?_
  refine sw_iload (pc' := 690) rfl dL_law_688 rfl ?_
  refine sw_iconst (pc' := 691) (v := 1) rfl dL_law_690 (by decide +kernel) ?_
  refine sw_iadd (pc' := 692) rfl dL_law_691 ?_
  rw [show (nI i) + 1 = nI (i + 1) from nI_add _ _]
  refine sw_iald (j := i + 1) (pc' := 693) rfl dL_law_692 ((pF 0 (by omega) (by omega) (by omega)).trans hs) rfl (by omega) (by omega) ?_
  have hQ2 := hQ.fr (fun i a b => pF i (by omega) (by omega) (by omega))
  obtain ⟨ρ, τ, hM, hA⟩ := id hQ2
  refine sw_V (M' := MX5_turn) (d' := d - 1) (bc' := 1) (bs' := 12) (ci := 6) (as := [_]) dL_law_693 w_1278 ok_X5_turn (q_turn hQ2 (hV.iv hN) (by omega) (by omega) (Nat.le_refl _) (Nat.le_refl _)) hM.ob rfl (by omega) (Nat.le_of_ble_eq_true rfl) (by omega) (by omega) (fun E h' n' _ z => pmc_x z) (pmc_k ox_turn (fun u un ub uk uv uR uF => ?_))
  refine sw_istore (pc' := 698) (lv' := [(6, _), (5, _), (4, _), (3, _), (2, _), (1, _), (0, _)]) rfl dL_law_696 (by decide +kernel) rfl ?_
  refine sw_goto (tgt := 1944) dL_law_698 (by decide +kernel) ?_
  have J : LI L xs u un (opTurn σ (xs (i + 1))).2 (N + 12) := ⟨pR.frT (fun i hi => uF i (by omega) (by omega)), ⟨_, uR⟩, hT.fr (fun i hi => (uF i (by omega) (by omega)).trans (pF i (by omega) (by omega) (by omega))), iv_turn hV, ⟨_, _, (uF 158 (by omega) (by omega)).trans pO⟩, (uF 0 (by omega) (by omega)).trans ((pF 0 (by omega) (by omega) (by omega)).trans hs), by omega⟩
  exact SW.pick [2, 3, 4, 5, 6] rfl ((K u un _ (by omega) J).bud (by omega) (by omega))
theorem lc_10 {L : Nat} {xs : Nat → Int32} {h : AH} {n i N d bc bs : Nat} {σ : CS} {Post : ARes → AH → Nat → Prop} (hI : LI L xs h n σ N) (hN : N < 2 ^ 31) (hL : L ≤ 3072) (hi : i + 6 ≤ L) (hd : 20 ≤ d) (h1 : 380 ≤ bc) (h2 : 4500 ≤ bs) (K : ∀ (h' : AH) (n' : Nat) (σ' : CS), n ≤ n' → LI L xs h' n' σ' (N + 12) → SW SR0 ML_law d (bc - 380) (bs - 4500) 1944 [(4, .int (nI i)), (3, .ref 158), (2, .ref 135), (1, .ref 100), (0, .ref 0)] [] h' n' Post) : SW SR0 ML_law d bc bs 701 [(4, .int (nI i)), (3, .ref 158), (2, .ref 135), (1, .ref 100), (0, .ref 0)] [] h n Post := by
  obtain ⟨hR, ⟨th, hQ⟩, hT, hV, ⟨w, s, hO⟩, hs, hn⟩ := hI
  refine sw_aload_n (pc' := 702) rfl dL_law_701 rfl ?_
  refine sw_aload_n (pc' := 703) rfl dL_law_702 rfl ?_
  refine sw_iload (pc' := 705) rfl dL_law_703 rfl ?_
  refine sw_iconst (pc' := 706) (v := 1) rfl dL_law_705 (by decide +kernel) ?_
  refine sw_iadd (pc' := 707) rfl dL_law_706 ?_
  rw [show (nI i) + 1 = nI (i + 1) from nI_add _ _]
  refine sw_iald (j := i + 1) (pc' := 708) rfl dL_law_707 hs rfl (by omega) (by omega) ?_
  refine sw_aload_n (pc' := 709) rfl dL_law_708 rfl ?_
  refine sw_iload (pc' := 711) rfl dL_law_709 rfl ?_
  refine sw_iconst (pc' := 712) (v := 2) rfl dL_law_711 (by decide +kernel) ?_
  refine sw_iadd (pc' := 713) rfl dL_law_712 ?_
  rw [show (nI i) + 2 = nI (i + 2) from nI_add _ _]
  refine sw_iald (j := i + 2) (pc' := 714) rfl dL_law_713 hs rfl (by omega) (by omega) ?_
  refine sw_aload_n (pc' := 715) rfl dL_law_714 rfl ?_
  refine sw_S (M' := ML_rotate) (d' := d - 1) (bc' := 60) (bs' := 400) (as := [_, _, _, _]) dL_law_715 w_576 ok_L_rotate (L_rotate hR hT hV hN hO hn (by omega) (Nat.le_refl _) (Nat.le_refl _)) (by omega) (Nat.le_of_ble_eq_true rfl) (by omega) (by omega) (fun E h' n' _ z => lpo_x z) (lpo_k (fun p pn pw ps pk pR pO pv pF => ?_))
  refine sw_istore (pc' := 720) (lv' := [(5, _), (4, _), (3, _), (2, _), (1, _), (0, _)]) rfl dL_law_718 (by decide +kernel) rfl ?_
  refine sw_aload_n (pc' := 721) rfl dL_law_720 rfl ?_
  refine sw_aload_n (pc' := 722) rfl dL_law_721 rfl ?_
  refine sw_iload (pc' := 724) rfl dL_law_722 rfl ?_
  refine sw_iconst (pc' := 725) (v := 1) rfl dL_law_724 (by decide +kernel) ?_
  refine sw_iadd (pc' := 726) rfl dL_law_725 ?_
  rw [show (nI i) + 1 = nI (i + 1) from nI_add _ _]
  refine sw_iald (j := i + 1) (pc' := 727) rfl dL_law_726 ((pF 0 (by omega) (by omega) (by omega)).trans hs) rfl (by omega) (by omega) ?_
  refine sw_aload_n (pc' := 728) rfl dL_law_727 rfl ?_
  refine sw_iload (pc' := 730) rfl dL_law_728 rfl ?_
  refine sw_iconst (pc' := 731) (v := 2) rfl dL_law_730 (by decide +kernel) ?_
  refine sw_iadd (pc' := 732) rfl dL_law_731 ?_
  rw [show (nI i) + 2 = nI (i + 2) from nI_add _ _]
  refine sw_iald (j := i + 2) (pc' := 733) rfl dL_law_732 ((pF 0 (by omega) (by omega) (by omega)).trans hs) rfl (by omega) (by omega) ?_
  have hQ2 := hQ.fr (fun i a b => pF i (by omega) (by omega) (by omega))
  obtain ⟨ρ, τ, hM, hA⟩ := id hQ2
  refine sw_V (M' := MX5_rotate) (d' := d - 1) (bc' := 1) (bs' := 12) (ci := 6) (as := [_, _]) dL_law_733 w_1282 ok_X5_rotate (q_rotate hQ2 (hV.iv hN) (by omega) (by omega) (Nat.le_refl _) (Nat.le_refl _)) hM.ob rfl (by omega) (Nat.le_of_ble_eq_true rfl) (by omega) (by omega) (fun E h' n' _ z => pmc_x z) (pmc_k ox_rotate (fun u un ub uk uv uR uF => ?_))
  refine sw_istore (pc' := 738) (lv' := [(6, _), (5, _), (4, _), (3, _), (2, _), (1, _), (0, _)]) rfl dL_law_736 (by decide +kernel) rfl ?_
  refine sw_goto (tgt := 1944) dL_law_738 (by decide +kernel) ?_
  have J : LI L xs u un (opRotate σ (xs (i + 1)) (xs (i + 2))).2 (N + 12) := ⟨pR.frT (fun i hi => uF i (by omega) (by omega)), ⟨_, uR⟩, hT.fr (fun i hi => (uF i (by omega) (by omega)).trans (pF i (by omega) (by omega) (by omega))), iv_rotate hV, ⟨_, _, (uF 158 (by omega) (by omega)).trans pO⟩, (uF 0 (by omega) (by omega)).trans ((pF 0 (by omega) (by omega) (by omega)).trans hs), by omega⟩
  exact SW.pick [2, 3, 4, 5, 6] rfl ((K u un _ (by omega) J).bud (by omega) (by omega))
theorem lc_11 {L : Nat} {xs : Nat → Int32} {h : AH} {n i N d bc bs : Nat} {σ : CS} {Post : ARes → AH → Nat → Prop} (hI : LI L xs h n σ N) (hN : N < 2 ^ 31) (hL : L ≤ 3072) (hi : i + 6 ≤ L) (hd : 20 ≤ d) (h1 : 380 ≤ bc) (h2 : 4500 ≤ bs) (K : ∀ (h' : AH) (n' : Nat) (σ' : CS), n ≤ n' → LI L xs h' n' σ' (N + 12) → SW SR0 ML_law d (bc - 380) (bs - 4500) 1944 [(4, .int (nI i)), (3, .ref 158), (2, .ref 135), (1, .ref 100), (0, .ref 0)] [] h' n' Post) : SW SR0 ML_law d bc bs 741 [(4, .int (nI i)), (3, .ref 158), (2, .ref 135), (1, .ref 100), (0, .ref 0)] [] h n Post := by
  obtain ⟨hR, ⟨th, hQ⟩, hT, hV, ⟨w, s, hO⟩, hs, hn⟩ := hI
  refine sw_aload_n (pc' := 742) rfl dL_law_741 rfl ?_
  refine sw_aload_n (pc' := 743) rfl dL_law_742 rfl ?_
  refine sw_iload (pc' := 745) rfl dL_law_743 rfl ?_
  refine sw_iconst (pc' := 746) (v := 1) rfl dL_law_745 (by decide +kernel) ?_
  refine sw_iadd (pc' := 747) rfl dL_law_746 ?_
  rw [show (nI i) + 1 = nI (i + 1) from nI_add _ _]
  refine sw_iald (j := i + 1) (pc' := 748) rfl dL_law_747 hs rfl (by omega) (by omega) ?_
  refine sw_aload_n (pc' := 749) rfl dL_law_748 rfl ?_
  refine sw_iload (pc' := 751) rfl dL_law_749 rfl ?_
  refine sw_iconst (pc' := 752) (v := 2) rfl dL_law_751 (by decide +kernel) ?_
  refine sw_iadd (pc' := 753) rfl dL_law_752 ?_
  rw [show (nI i) + 2 = nI (i + 2) from nI_add _ _]
  refine sw_iald (j := i + 2) (pc' := 754) rfl dL_law_753 hs rfl (by omega) (by omega) ?_
  refine sw_aload_n (pc' := 755) rfl dL_law_754 rfl ?_
  refine sw_iload (pc' := 757) rfl dL_law_755 rfl ?_
  refine sw_iconst (pc' := 758) (v := 3) rfl dL_law_757 (by decide +kernel) ?_
  refine sw_iadd (pc' := 759) rfl dL_law_758 ?_
  rw [show (nI i) + 3 = nI (i + 3) from nI_add _ _]
  refine sw_iald (j := i + 3) (pc' := 760) rfl dL_law_759 hs rfl (by omega) (by omega) ?_
  refine sw_aload_n (pc' := 761) rfl dL_law_760 rfl ?_
  refine sw_S (M' := ML_swap) (d' := d - 1) (bc' := 60) (bs' := 400) (as := [_, _, _, _, _]) dL_law_761 w_592 ok_L_swap (L_swap hR hT hV hN hO hn (by omega) (Nat.le_refl _) (Nat.le_refl _)) (by omega) (Nat.le_of_ble_eq_true rfl) (by omega) (by omega) (fun E h' n' _ z => lpo_x z) (lpo_k (fun p pn pw ps pk pR pO pv pF => ?_))
  refine sw_istore (pc' := 766) (lv' := [(5, _), (4, _), (3, _), (2, _), (1, _), (0, _)]) rfl dL_law_764 (by decide +kernel) rfl ?_
  refine sw_aload_n (pc' := 767) rfl dL_law_766 rfl ?_
  refine sw_aload_n (pc' := 768) rfl dL_law_767 rfl ?_
  refine sw_iload (pc' := 770) rfl dL_law_768 rfl ?_
  refine sw_iconst (pc' := 771) (v := 1) rfl dL_law_770 (by decide +kernel) ?_
  refine sw_iadd (pc' := 772) rfl dL_law_771 ?_
  rw [show (nI i) + 1 = nI (i + 1) from nI_add _ _]
  refine sw_iald (j := i + 1) (pc' := 773) rfl dL_law_772 ((pF 0 (by omega) (by omega) (by omega)).trans hs) rfl (by omega) (by omega) ?_
  refine sw_aload_n (pc' := 774) rfl dL_law_773 rfl ?_
  refine sw_iload (pc' := 776) rfl dL_law_774 rfl ?_
  refine sw_iconst (pc' := 777) (v := 2) rfl dL_law_776 (by decide +kernel) ?_
  refine sw_iadd (pc' := 778) rfl dL_law_777 ?_
  rw [show (nI i) + 2 = nI (i + 2) from nI_add _ _]
  refine sw_iald (j := i + 2) (pc' := 779) rfl dL_law_778 ((pF 0 (by omega) (by omega) (by omega)).trans hs) rfl (by omega) (by omega) ?_
  refine sw_aload_n (pc' := 780) rfl dL_law_779 rfl ?_
  refine sw_iload (pc' := 782) rfl dL_law_780 rfl ?_
  refine sw_iconst (pc' := 783) (v := 3) rfl dL_law_782 (by decide +kernel) ?_
  refine sw_iadd (pc' := 784) rfl dL_law_783 ?_
  rw [show (nI i) + 3 = nI (i + 3) from nI_add _ _]
  refine sw_iald (j := i + 3) (pc' := 785) rfl dL_law_784 ((pF 0 (by omega) (by omega) (by omega)).trans hs) rfl (by omega) (by omega) ?_
  have hQ2 := hQ.fr (fun i a b => pF i (by omega) (by omega) (by omega))
  obtain ⟨ρ, τ, hM, hA⟩ := id hQ2
  refine sw_V (M' := MX5_swap) (d' := d - 1) (bc' := 1) (bs' := 12) (ci := 6) (as := [_, _, _]) dL_law_785 w_1286 ok_X5_swap (q_swap hQ2 (hV.iv hN) (by omega) (by omega) (Nat.le_refl _) (Nat.le_refl _)) hM.ob rfl (by omega) (Nat.le_of_ble_eq_true rfl) (by omega) (by omega) (fun E h' n' _ z => pmc_x z) (pmc_k ox_swap (fun u un ub uk uv uR uF => ?_))
  refine sw_istore (pc' := 790) (lv' := [(6, _), (5, _), (4, _), (3, _), (2, _), (1, _), (0, _)]) rfl dL_law_788 (by decide +kernel) rfl ?_
  refine sw_goto (tgt := 1944) dL_law_790 (by decide +kernel) ?_
  have J : LI L xs u un (opSwap σ (xs (i + 1)) (xs (i + 2)) (xs (i + 3))).2 (N + 12) := ⟨pR.frT (fun i hi => uF i (by omega) (by omega)), ⟨_, uR⟩, hT.fr (fun i hi => (uF i (by omega) (by omega)).trans (pF i (by omega) (by omega) (by omega))), iv_swap hV, ⟨_, _, (uF 158 (by omega) (by omega)).trans pO⟩, (uF 0 (by omega) (by omega)).trans ((pF 0 (by omega) (by omega) (by omega)).trans hs), by omega⟩
  exact SW.pick [2, 3, 4, 5, 6] rfl ((K u un _ (by omega) J).bud (by omega) (by omega))
theorem lc_12 {L : Nat} {xs : Nat → Int32} {h : AH} {n i N d bc bs : Nat} {σ : CS} {Post : ARes → AH → Nat → Prop} (hI : LI L xs h n σ N) (hN : N < 2 ^ 31) (hL : L ≤ 3072) (hi : i + 6 ≤ L) (hd : 20 ≤ d) (h1 : 380 ≤ bc) (h2 : 4500 ≤ bs) (K : ∀ (h' : AH) (n' : Nat) (σ' : CS), n ≤ n' → LI L xs h' n' σ' (N + 12) → SW SR0 ML_law d (bc - 380) (bs - 4500) 1944 [(4, .int (nI i)), (3, .ref 158), (2, .ref 135), (1, .ref 100), (0, .ref 0)] [] h' n' Post) : SW SR0 ML_law d bc bs 793 [(4, .int (nI i)), (3, .ref 158), (2, .ref 135), (1, .ref 100), (0, .ref 0)] [] h n Post := by
  obtain ⟨hR, ⟨th, hQ⟩, hT, hV, ⟨w, s, hO⟩, hs, hn⟩ := hI
  refine sw_aload_n (pc' := 794) rfl dL_law_793 rfl ?_
  refine sw_aload_n (pc' := 795) rfl dL_law_794 rfl ?_
  refine sw_iload (pc' := 797) rfl dL_law_795 rfl ?_
  refine sw_iconst (pc' := 798) (v := 1) rfl dL_law_797 (by decide +kernel) ?_
  refine sw_iadd (pc' := 799) rfl dL_law_798 ?_
  rw [show (nI i) + 1 = nI (i + 1) from nI_add _ _]
  refine sw_iald (j := i + 1) (pc' := 800) rfl dL_law_799 hs rfl (by omega) (by omega) ?_
  refine sw_aload_n (pc' := 801) rfl dL_law_800 rfl ?_
  refine sw_iload (pc' := 803) rfl dL_law_801 rfl ?_
  refine sw_iconst (pc' := 804) (v := 2) rfl dL_law_803 (by decide +kernel) ?_
  refine sw_iadd (pc' := 805) rfl dL_law_804 ?_
  rw [show (nI i) + 2 = nI (i + 2) from nI_add _ _]
  refine sw_iald (j := i + 2) (pc' := 806) rfl dL_law_805 hs rfl (by omega) (by omega) ?_
  refine sw_aload_n (pc' := 807) rfl dL_law_806 rfl ?_
  refine sw_S (M' := ML_fill) (d' := d - 1) (bc' := 60) (bs' := 400) (as := [_, _, _, _]) dL_law_807 w_599 ok_L_fill (L_fill hR hT hV hN hO hn (by omega) (Nat.le_refl _) (Nat.le_refl _)) (by omega) (Nat.le_of_ble_eq_true rfl) (by omega) (by omega) (fun E h' n' _ z => lpo_x z) (lpo_k (fun p pn pw ps pk pR pO pv pF => ?_))
  refine sw_istore (pc' := 812) (lv' := [(5, _), (4, _), (3, _), (2, _), (1, _), (0, _)]) rfl dL_law_810 (by decide +kernel) rfl ?_
  refine sw_aload_n (pc' := 813) rfl dL_law_812 rfl ?_
  refine sw_aload_n (pc' := 814) rfl dL_law_813 rfl ?_
  refine sw_iload (pc' := 816) rfl dL_law_814 rfl ?_
  refine sw_iconst (pc' := 817) (v := 1) rfl dL_law_816 (by decide +kernel) ?_
  refine sw_iadd (pc' := 818) rfl dL_law_817 ?_
  rw [show (nI i) + 1 = nI (i + 1) from nI_add _ _]
  refine sw_iald (j := i + 1) (pc' := 819) rfl dL_law_818 ((pF 0 (by omega) (by omega) (by omega)).trans hs) rfl (by omega) (by omega) ?_
  refine sw_aload_n (pc' := 820) rfl dL_law_819 rfl ?_
  refine sw_iload (pc' := 822) rfl dL_law_820 rfl ?_
  refine sw_iconst (pc' := 823) (v := 2) rfl dL_law_822 (by decide +kernel) ?_
  refine sw_iadd (pc' := 824) rfl dL_law_823 ?_
  rw [show (nI i) + 2 = nI (i + 2) from nI_add _ _]
  refine sw_iald (j := i + 2) (pc' := 825) rfl dL_law_824 ((pF 0 (by omega) (by omega) (by omega)).trans hs) rfl (by omega) (by omega) ?_
  have hQ2 := hQ.fr (fun i a b => pF i (by omega) (by omega) (by omega))
  obtain ⟨ρ, τ, hM, hA⟩ := id hQ2
  refine sw_V (M' := MX5_fill) (d' := d - 1) (bc' := 1) (bs' := 12) (ci := 6) (as := [_, _]) dL_law_825 w_1290 ok_X5_fill (q_fill hQ2 (hV.iv hN) (by omega) (by omega) (Nat.le_refl _) (Nat.le_refl _)) hM.ob rfl (by omega) (Nat.le_of_ble_eq_true rfl) (by omega) (by omega) (fun E h' n' _ z => pmc_x z) (pmc_k ox_fill (fun u un ub uk uv uR uF => ?_))
  refine sw_istore (pc' := 830) (lv' := [(6, _), (5, _), (4, _), (3, _), (2, _), (1, _), (0, _)]) rfl dL_law_828 (by decide +kernel) rfl ?_
  refine sw_goto (tgt := 1944) dL_law_830 (by decide +kernel) ?_
  have J : LI L xs u un (opFill σ (xs (i + 1)) (xs (i + 2))).2 (N + 12) := ⟨pR.frT (fun i hi => uF i (by omega) (by omega)), ⟨_, uR⟩, hT.fr (fun i hi => (uF i (by omega) (by omega)).trans (pF i (by omega) (by omega) (by omega))), iv_fill hV, ⟨_, _, (uF 158 (by omega) (by omega)).trans pO⟩, (uF 0 (by omega) (by omega)).trans ((pF 0 (by omega) (by omega) (by omega)).trans hs), by omega⟩
  exact SW.pick [2, 3, 4, 5, 6] rfl ((K u un _ (by omega) J).bud (by omega) (by omega))
theorem lc_13 {L : Nat} {xs : Nat → Int32} {h : AH} {n i N d bc bs : Nat} {σ : CS} {Post : ARes → AH → Nat → Prop} (hI : LI L xs h n σ N) (hN : N < 2 ^ 31) (hL : L ≤ 3072) (hi : i + 6 ≤ L) (hd : 20 ≤ d) (h1 : 380 ≤ bc) (h2 : 4500 ≤ bs) (K : ∀ (h' : AH) (n' : Nat) (σ' : CS), n ≤ n' → LI L xs h' n' σ' (N + 12) → SW SR0 ML_law d (bc - 380) (bs - 4500) 1944 [(4, .int (nI i)), (3, .ref 158), (2, .ref 135), (1, .ref 100), (0, .ref 0)] [] h' n' Post) : SW SR0 ML_law d bc bs 833 [(4, .int (nI i)), (3, .ref 158), (2, .ref 135), (1, .ref 100), (0, .ref 0)] [] h n Post := by
  obtain ⟨hR, ⟨th, hQ⟩, hT, hV, ⟨w, s, hO⟩, hs, hn⟩ := hI
  refine sw_aload_n (pc' := 834) rfl dL_law_833 rfl ?_
  refine sw_aload_n (pc' := 835) rfl dL_law_834 rfl ?_
  refine sw_iload (pc' := 837) rfl dL_law_835 rfl ?_
  refine sw_iconst (pc' := 838) (v := 1) rfl dL_law_837 (by decide +kernel) ?_
  refine sw_iadd (pc' := 839) rfl dL_law_838 ?_
  rw [show (nI i) + 1 = nI (i + 1) from nI_add _ _]
  refine sw_iald (j := i + 1) (pc' := 840) rfl dL_law_839 hs rfl (by omega) (by omega) ?_
  refine sw_aload_n (pc' := 841) rfl dL_law_840 rfl ?_
  refine sw_iload (pc' := 843) rfl dL_law_841 rfl ?_
  refine sw_iconst (pc' := 844) (v := 2) rfl dL_law_843 (by decide +kernel) ?_
  refine sw_iadd (pc' := 845) rfl dL_law_844 ?_
  rw [show (nI i) + 2 = nI (i + 2) from nI_add _ _]
  refine sw_iald (j := i + 2) (pc' := 846) rfl dL_law_845 hs rfl (by omega) (by omega) ?_
  refine sw_aload_n (pc' := 847) rfl dL_law_846 rfl ?_
  refine sw_iload (pc' := 849) rfl dL_law_847 rfl ?_
  refine sw_iconst (pc' := 850) (v := 3) rfl dL_law_849 (by decide +kernel) ?_
  refine sw_iadd (pc' := 851) rfl dL_law_850 ?_
  rw [show (nI i) + 3 = nI (i + 3) from nI_add _ _]
  refine sw_iald (j := i + 3) (pc' := 852) rfl dL_law_851 hs rfl (by omega) (by omega) ?_
  refine sw_aload_n (pc' := 853) rfl dL_law_852 rfl ?_
  refine sw_S (M' := ML_replace) (d' := d - 1) (bc' := 60) (bs' := 400) (as := [_, _, _, _, _]) dL_law_853 w_606 ok_L_replace (L_replace hR hT hV hN hO hn (by omega) (Nat.le_refl _) (Nat.le_refl _)) (by omega) (Nat.le_of_ble_eq_true rfl) (by omega) (by omega) (fun E h' n' _ z => lpo_x z) (lpo_k (fun p pn pw ps pk pR pO pv pF => ?_))
  refine sw_istore (pc' := 858) (lv' := [(5, _), (4, _), (3, _), (2, _), (1, _), (0, _)]) rfl dL_law_856 (by decide +kernel) rfl ?_
  refine sw_aload_n (pc' := 859) rfl dL_law_858 rfl ?_
  refine sw_aload_n (pc' := 860) rfl dL_law_859 rfl ?_
  refine sw_iload (pc' := 862) rfl dL_law_860 rfl ?_
  refine sw_iconst (pc' := 863) (v := 1) rfl dL_law_862 (by decide +kernel) ?_
  refine sw_iadd (pc' := 864) rfl dL_law_863 ?_
  rw [show (nI i) + 1 = nI (i + 1) from nI_add _ _]
  refine sw_iald (j := i + 1) (pc' := 865) rfl dL_law_864 ((pF 0 (by omega) (by omega) (by omega)).trans hs) rfl (by omega) (by omega) ?_
  refine sw_aload_n (pc' := 866) rfl dL_law_865 rfl ?_
  refine sw_iload (pc' := 868) rfl dL_law_866 rfl ?_
  refine sw_iconst (pc' := 869) (v := 2) rfl dL_law_868 (by decide +kernel) ?_
  refine sw_iadd (pc' := 870) rfl dL_law_869 ?_
  rw [show (nI i) + 2 = nI (i + 2) from nI_add _ _]
  refine sw_iald (j := i + 2) (pc' := 871) rfl dL_law_870 ((pF 0 (by omega) (by omega) (by omega)).trans hs) rfl (by omega) (by omega) ?_
  refine sw_aload_n (pc' := 872) rfl dL_law_871 rfl ?_
  refine sw_iload (pc' := 874) rfl dL_law_872 rfl ?_
  refine sw_iconst (pc' := 875) (v := 3) rfl dL_law_874 (by decide +kernel) ?_
  refine sw_iadd (pc' := 876) rfl dL_law_875 ?_
  rw [show (nI i) + 3 = nI (i + 3) from nI_add _ _]
  refine sw_iald (j := i + 3) (pc' := 877) rfl dL_law_876 ((pF 0 (by omega) (by omega) (by omega)).trans hs) rfl (by omega) (by omega) ?_
  have hQ2 := hQ.fr (fun i a b => pF i (by omega) (by omega) (by omega))
  obtain ⟨ρ, τ, hM, hA⟩ := id hQ2
  refine sw_V (M' := MX5_replace) (d' := d - 1) (bc' := 1) (bs' := 12) (ci := 6) (as := [_, _, _]) dL_law_877 w_1294 ok_X5_replace (q_replace hQ2 (hV.iv hN) (by omega) (by omega) (Nat.le_refl _) (Nat.le_refl _)) hM.ob rfl (by omega) (Nat.le_of_ble_eq_true rfl) (by omega) (by omega) (fun E h' n' _ z => pmc_x z) (pmc_k ox_replace (fun u un ub uk uv uR uF => ?_))
  refine sw_istore (pc' := 882) (lv' := [(6, _), (5, _), (4, _), (3, _), (2, _), (1, _), (0, _)]) rfl dL_law_880 (by decide +kernel) rfl ?_
  refine sw_goto (tgt := 1944) dL_law_882 (by decide +kernel) ?_
  have J : LI L xs u un (opReplace σ (xs (i + 1)) (xs (i + 2)) (xs (i + 3))).2 (N + 12) := ⟨pR.frT (fun i hi => uF i (by omega) (by omega)), ⟨_, uR⟩, hT.fr (fun i hi => (uF i (by omega) (by omega)).trans (pF i (by omega) (by omega) (by omega))), iv_replace hV, ⟨_, _, (uF 158 (by omega) (by omega)).trans pO⟩, (uF 0 (by omega) (by omega)).trans ((pF 0 (by omega) (by omega) (by omega)).trans hs), by omega⟩
  exact SW.pick [2, 3, 4, 5, 6] rfl ((K u un _ (by omega) J).bud (by omega) (by omega))
theorem lc_14 {L : Nat} {xs : Nat → Int32} {h : AH} {n i N d bc bs : Nat} {σ : CS} {Post : ARes → AH → Nat → Prop} (hI : LI L xs h n σ N) (hN : N < 2 ^ 31) (hL : L ≤ 3072) (hi : i + 6 ≤ L) (hd : 20 ≤ d) (h1 : 380 ≤ bc) (h2 : 4500 ≤ bs) (K : ∀ (h' : AH) (n' : Nat) (σ' : CS), n ≤ n' → LI L xs h' n' σ' (N + 12) → SW SR0 ML_law d (bc - 380) (bs - 4500) 1944 [(4, .int (nI i)), (3, .ref 158), (2, .ref 135), (1, .ref 100), (0, .ref 0)] [] h' n' Post) : SW SR0 ML_law d bc bs 885 [(4, .int (nI i)), (3, .ref 158), (2, .ref 135), (1, .ref 100), (0, .ref 0)] [] h n Post := by
  obtain ⟨hR, ⟨th, hQ⟩, hT, hV, ⟨w, s, hO⟩, hs, hn⟩ := hI
  refine sw_aload_n (pc' := 886) rfl dL_law_885 rfl ?_
  refine sw_aload_n (pc' := 887) rfl dL_law_886 rfl ?_
  refine sw_iload (pc' := 889) rfl dL_law_887 rfl ?_
  refine sw_iconst (pc' := 890) (v := 1) rfl dL_law_889 (by decide +kernel) ?_
  refine sw_iadd (pc' := 891) rfl dL_law_890 ?_
  rw [show (nI i) + 1 = nI (i + 1) from nI_add _ _]
  refine sw_iald (j := i + 1) (pc' := 892) rfl dL_law_891 hs rfl (by omega) (by omega) ?_
  refine sw_aload_n (pc' := 893) rfl dL_law_892 rfl ?_
  refine sw_iload (pc' := 895) rfl dL_law_893 rfl ?_
  refine sw_iconst (pc' := 896) (v := 2) rfl dL_law_895 (by decide +kernel) ?_
  refine sw_iadd (pc' := 897) rfl dL_law_896 ?_
  rw [show (nI i) + 2 = nI (i + 2) from nI_add _ _]
  refine sw_iald (j := i + 2) (pc' := 898) rfl dL_law_897 hs rfl (by omega) (by omega) ?_
  refine sw_aload_n (pc' := 899) rfl dL_law_898 rfl ?_
  refine sw_iload (pc' := 901) rfl dL_law_899 rfl ?_
  refine sw_iconst (pc' := 902) (v := 3) rfl dL_law_901 (by decide +kernel) ?_
  refine sw_iadd (pc' := 903) rfl dL_law_902 ?_
  rw [show (nI i) + 3 = nI (i + 3) from nI_add _ _]
  refine sw_iald (j := i + 3) (pc' := 904) rfl dL_law_903 hs rfl (by omega) (by omega) ?_
  refine sw_aload_n (pc' := 905) rfl dL_law_904 rfl ?_
  refine sw_S (M' := ML_copies) (d' := d - 1) (bc' := 60) (bs' := 400) (as := [_, _, _, _, _]) dL_law_905 w_613 ok_L_copies (L_copies hR hT hV hN hO hn (by omega) (Nat.le_refl _) (Nat.le_refl _)) (by omega) (Nat.le_of_ble_eq_true rfl) (by omega) (by omega) (fun E h' n' _ z => lpo_x z) (lpo_k (fun p pn pw ps pk pR pO pv pF => ?_))
  refine sw_istore (pc' := 910) (lv' := [(5, _), (4, _), (3, _), (2, _), (1, _), (0, _)]) rfl dL_law_908 (by decide +kernel) rfl ?_
  refine sw_aload_n (pc' := 911) rfl dL_law_910 rfl ?_
  refine sw_aload_n (pc' := 912) rfl dL_law_911 rfl ?_
  refine sw_iload (pc' := 914) rfl dL_law_912 rfl ?_
  refine sw_iconst (pc' := 915) (v := 1) rfl dL_law_914 (by decide +kernel) ?_
  refine sw_iadd (pc' := 916) rfl dL_law_915 ?_
  rw [show (nI i) + 1 = nI (i + 1) from nI_add _ _]
  refine sw_iald (j := i + 1) (pc' := 917) rfl dL_law_916 ((pF 0 (by omega) (by omega) (by omega)).trans hs) rfl (by omega) (by omega) ?_
  refine sw_aload_n (pc' := 918) rfl dL_law_917 rfl ?_
  refine sw_iload (pc' := 920) rfl dL_law_918 rfl ?_
  refine sw_iconst (pc' := 921) (v := 2) rfl dL_law_920 (by decide +kernel) ?_
  refine sw_iadd (pc' := 922) rfl dL_law_921 ?_
  rw [show (nI i) + 2 = nI (i + 2) from nI_add _ _]
  refine sw_iald (j := i + 2) (pc' := 923) rfl dL_law_922 ((pF 0 (by omega) (by omega) (by omega)).trans hs) rfl (by omega) (by omega) ?_
  refine sw_aload_n (pc' := 924) rfl dL_law_923 rfl ?_
  refine sw_iload (pc' := 926) rfl dL_law_924 rfl ?_
  refine sw_iconst (pc' := 927) (v := 3) rfl dL_law_926 (by decide +kernel) ?_
  refine sw_iadd (pc' := 928) rfl dL_law_927 ?_
  rw [show (nI i) + 3 = nI (i + 3) from nI_add _ _]
  refine sw_iald (j := i + 3) (pc' := 929) rfl dL_law_928 ((pF 0 (by omega) (by omega) (by omega)).trans hs) rfl (by omega) (by omega) ?_
  have hQ2 := hQ.fr (fun i a b => pF i (by omega) (by omega) (by omega))
  obtain ⟨ρ, τ, hM, hA⟩ := id hQ2
  refine sw_V (M' := MX5_copies) (d' := d - 1) (bc' := 1) (bs' := 12) (ci := 6) (as := [_, _, _]) dL_law_929 w_1298 ok_X5_copies (q_copies hQ2 (hV.iv hN) (by omega) (by omega) (Nat.le_refl _) (Nat.le_refl _)) hM.ob rfl (by omega) (Nat.le_of_ble_eq_true rfl) (by omega) (by omega) (fun E h' n' _ z => pmc_x z) (pmc_k ox_copies (fun u un ub uk uv uR uF => ?_))
  refine sw_istore (pc' := 934) (lv' := [(6, _), (5, _), (4, _), (3, _), (2, _), (1, _), (0, _)]) rfl dL_law_932 (by decide +kernel) rfl ?_
  refine sw_goto (tgt := 1944) dL_law_934 (by decide +kernel) ?_
  have J : LI L xs u un (opCopies σ (xs (i + 1)) (xs (i + 2)) (xs (i + 3))).2 (N + 12) := ⟨pR.frT (fun i hi => uF i (by omega) (by omega)), ⟨_, uR⟩, hT.fr (fun i hi => (uF i (by omega) (by omega)).trans (pF i (by omega) (by omega) (by omega))), iv_copies hV, ⟨_, _, (uF 158 (by omega) (by omega)).trans pO⟩, (uF 0 (by omega) (by omega)).trans ((pF 0 (by omega) (by omega) (by omega)).trans hs), by omega⟩
  exact SW.pick [2, 3, 4, 5, 6] rfl ((K u un _ (by omega) J).bud (by omega) (by omega))
theorem lc_15 {L : Nat} {xs : Nat → Int32} {h : AH} {n i N d bc bs : Nat} {σ : CS} {Post : ARes → AH → Nat → Prop} (hI : LI L xs h n σ N) (hN : N < 2 ^ 31) (hL : L ≤ 3072) (hi : i + 6 ≤ L) (hd : 20 ≤ d) (h1 : 380 ≤ bc) (h2 : 4500 ≤ bs) (K : ∀ (h' : AH) (n' : Nat) (σ' : CS), n ≤ n' → LI L xs h' n' σ' (N + 12) → SW SR0 ML_law d (bc - 380) (bs - 4500) 1944 [(4, .int (nI i)), (3, .ref 158), (2, .ref 135), (1, .ref 100), (0, .ref 0)] [] h' n' Post) : SW SR0 ML_law d bc bs 937 [(4, .int (nI i)), (3, .ref 158), (2, .ref 135), (1, .ref 100), (0, .ref 0)] [] h n Post := by
  obtain ⟨hR, ⟨th, hQ⟩, hT, hV, ⟨w, s, hO⟩, hs, hn⟩ := hI
  refine sw_aload_n (pc' := 938) rfl dL_law_937 rfl ?_
  refine sw_aload_n (pc' := 939) rfl dL_law_938 rfl ?_
  refine sw_iload (pc' := 941) rfl dL_law_939 rfl ?_
  refine sw_iconst (pc' := 942) (v := 1) rfl dL_law_941 (by decide +kernel) ?_
  refine sw_iadd (pc' := 943) rfl dL_law_942 ?_
  rw [show (nI i) + 1 = nI (i + 1) from nI_add _ _]
  refine sw_iald (j := i + 1) (pc' := 944) rfl dL_law_943 hs rfl (by omega) (by omega) ?_
  refine sw_aload_n (pc' := 945) rfl dL_law_944 rfl ?_
  refine sw_iload (pc' := 947) rfl dL_law_945 rfl ?_
  refine sw_iconst (pc' := 948) (v := 2) rfl dL_law_947 (by decide +kernel) ?_
  refine sw_iadd (pc' := 949) rfl dL_law_948 ?_
  rw [show (nI i) + 2 = nI (i + 2) from nI_add _ _]
  refine sw_iald (j := i + 2) (pc' := 950) rfl dL_law_949 hs rfl (by omega) (by omega) ?_
  refine sw_aload_n (pc' := 951) rfl dL_law_950 rfl ?_
  refine sw_iload (pc' := 953) rfl dL_law_951 rfl ?_
  refine sw_iconst (pc' := 954) (v := 3) rfl dL_law_953 (by decide +kernel) ?_
  refine sw_iadd (pc' := 955) rfl dL_law_954 ?_
  rw [show (nI i) + 3 = nI (i + 3) from nI_add _ _]
  refine sw_iald (j := i + 3) (pc' := 956) rfl dL_law_955 hs rfl (by omega) (by omega) ?_
  refine sw_aload_n (pc' := 957) rfl dL_law_956 rfl ?_
  refine sw_S (M' := ML_walk) (d' := d - 1) (bc' := 60) (bs' := 400) (as := [_, _, _, _, _]) dL_law_957 w_624 ok_L_walk (L_walk hR hT hV hN hO hn (by omega) (Nat.le_refl _) (Nat.le_refl _)) (by omega) (Nat.le_of_ble_eq_true rfl) (by omega) (by omega) (fun E h' n' _ z => lpo_x z) (lpo_k (fun p pn pw ps pk pR pO pv pF => ?_))
  refine sw_istore (pc' := 962) (lv' := [(5, _), (4, _), (3, _), (2, _), (1, _), (0, _)]) rfl dL_law_960 (by decide +kernel) rfl ?_
  refine sw_aload_n (pc' := 963) rfl dL_law_962 rfl ?_
  refine sw_aload_n (pc' := 964) rfl dL_law_963 rfl ?_
  refine sw_iload (pc' := 966) rfl dL_law_964 rfl ?_
  refine sw_iconst (pc' := 967) (v := 1) rfl dL_law_966 (by decide +kernel) ?_
  refine sw_iadd (pc' := 968) rfl dL_law_967 ?_
  rw [show (nI i) + 1 = nI (i + 1) from nI_add _ _]
  refine sw_iald (j := i + 1) (pc' := 969) rfl dL_law_968 ((pF 0 (by omega) (by omega) (by omega)).trans hs) rfl (by omega) (by omega) ?_
  refine sw_aload_n (pc' := 970) rfl dL_law_969 rfl ?_
  refine sw_iload (pc' := 972) rfl dL_law_970 rfl ?_
  refine sw_iconst (pc' := 973) (v := 2) rfl dL_law_972 (by decide +kernel) ?_
  refine sw_iadd (pc' := 974) rfl dL_law_973 ?_
  rw [show (nI i) + 2 = nI (i + 2) from nI_add _ _]
  refine sw_iald (j := i + 2) (pc' := 975) rfl dL_law_974 ((pF 0 (by omega) (by omega) (by omega)).trans hs) rfl (by omega) (by omega) ?_
  refine sw_aload_n (pc' := 976) rfl dL_law_975 rfl ?_
  refine sw_iload (pc' := 978) rfl dL_law_976 rfl ?_
  refine sw_iconst (pc' := 979) (v := 3) rfl dL_law_978 (by decide +kernel) ?_
  refine sw_iadd (pc' := 980) rfl dL_law_979 ?_
  rw [show (nI i) + 3 = nI (i + 3) from nI_add _ _]
  refine sw_iald (j := i + 3) (pc' := 981) rfl dL_law_980 ((pF 0 (by omega) (by omega) (by omega)).trans hs) rfl (by omega) (by omega) ?_
  have hQ2 := hQ.fr (fun i a b => pF i (by omega) (by omega) (by omega))
  obtain ⟨ρ, τ, hM, hA⟩ := id hQ2
  refine sw_V (M' := MX5_walk) (d' := d - 1) (bc' := 1) (bs' := 12) (ci := 6) (as := [_, _, _]) dL_law_981 w_1302 ok_X5_walk (q_walk hQ2 (hV.iv hN) (by omega) (by omega) (Nat.le_refl _) (Nat.le_refl _)) hM.ob rfl (by omega) (Nat.le_of_ble_eq_true rfl) (by omega) (by omega) (fun E h' n' _ z => pmc_x z) (pmc_k ox_walk (fun u un ub uk uv uR uF => ?_))
  refine sw_istore (pc' := 986) (lv' := [(6, _), (5, _), (4, _), (3, _), (2, _), (1, _), (0, _)]) rfl dL_law_984 (by decide +kernel) rfl ?_
  refine sw_goto (tgt := 1944) dL_law_986 (by decide +kernel) ?_
  have J : LI L xs u un (opWalk σ (xs (i + 1)) (xs (i + 2)) (xs (i + 3))).2 (N + 12) := ⟨pR.frT (fun i hi => uF i (by omega) (by omega)), ⟨_, uR⟩, hT.fr (fun i hi => (uF i (by omega) (by omega)).trans (pF i (by omega) (by omega) (by omega))), iv_walk hV, ⟨_, _, (uF 158 (by omega) (by omega)).trans pO⟩, (uF 0 (by omega) (by omega)).trans ((pF 0 (by omega) (by omega) (by omega)).trans hs), by omega⟩
  exact SW.pick [2, 3, 4, 5, 6] rfl ((K u un _ (by omega) J).bud (by omega) (by omega))
theorem lc_16 {L : Nat} {xs : Nat → Int32} {h : AH} {n i N d bc bs : Nat} {σ : CS} {Post : ARes → AH → Nat → Prop} (hI : LI L xs h n σ N) (hN : N < 2 ^ 31) (hL : L ≤ 3072) (hi : i + 6 ≤ L) (hd : 20 ≤ d) (h1 : 380 ≤ bc) (h2 : 4500 ≤ bs) (K : ∀ (h' : AH) (n' : Nat) (σ' : CS), n ≤ n' → LI L xs h' n' σ' (N + 12) → SW SR0 ML_law d (bc - 380) (bs - 4500) 1944 [(4, .int (nI i)), (3, .ref 158), (2, .ref 135), (1, .ref 100), (0, .ref 0)] [] h' n' Post) : SW SR0 ML_law d bc bs 989 [(4, .int (nI i)), (3, .ref 158), (2, .ref 135), (1, .ref 100), (0, .ref 0)] [] h n Post := by
  obtain ⟨hR, ⟨th, hQ⟩, hT, hV, ⟨w, s, hO⟩, hs, hn⟩ := hI
  refine sw_aload_n (pc' := 990) rfl dL_law_989 rfl ?_
  refine sw_aload_n (pc' := 991) rfl dL_law_990 rfl ?_
  refine sw_iload (pc' := 993) rfl dL_law_991 rfl ?_
  refine sw_iconst (pc' := 994) (v := 1) rfl dL_law_993 (by decide +kernel) ?_
  refine sw_iadd (pc' := 995) rfl dL_law_994 ?_
  rw [show (nI i) + 1 = nI (i + 1) from nI_add _ _]
  refine sw_iald (j := i + 1) (pc' := 996) rfl dL_law_995 hs rfl (by omega) (by omega) ?_
  refine sw_aload_n (pc' := 997) rfl dL_law_996 rfl ?_
  refine sw_S (M' := ML_next) (d' := d - 1) (bc' := 60) (bs' := 400) (as := [_, _, _]) dL_law_997 w_633 ok_L_next (L_next hR hT hV hN hO hn (by omega) (Nat.le_refl _) (Nat.le_refl _)) (by omega) (Nat.le_of_ble_eq_true rfl) (by omega) (by omega) (fun E h' n' _ z => lpo_x z) (lpo_k (fun p pn pw ps pk pR pO pv pF => ?_))
  refine sw_istore (pc' := 1002) (lv' := [(5, _), (4, _), (3, _), (2, _), (1, _), (0, _)]) rfl dL_law_1000 (by decide +kernel) rfl ?_
  refine sw_aload_n (pc' := 1003) rfl dL_law_1002 rfl ?_
  refine sw_aload_n (pc' := 1004) rfl dL_law_1003 rfl ?_
  refine sw_iload (pc' := 1006) rfl dL_law_1004 rfl ?_
  refine sw_iconst (pc' := 1007) (v := 1) rfl dL_law_1006 (by decide +kernel) ?_
  refine sw_iadd (pc' := 1008) rfl dL_law_1007 ?_
  rw [show (nI i) + 1 = nI (i + 1) from nI_add _ _]
  refine sw_iald (j := i + 1) (pc' := 1009) rfl dL_law_1008 ((pF 0 (by omega) (by omega) (by omega)).trans hs) rfl (by omega) (by omega) ?_
  have hQ2 := hQ.fr (fun i a b => pF i (by omega) (by omega) (by omega))
  obtain ⟨ρ, τ, hM, hA⟩ := id hQ2
  refine sw_V (M' := MX5_next) (d' := d - 1) (bc' := 1) (bs' := 12) (ci := 6) (as := [_]) dL_law_1009 w_1309 ok_X5_next (q_next hQ2 (hV.iv hN) (by omega) (by omega) (Nat.le_refl _) (Nat.le_refl _)) hM.ob rfl (by omega) (Nat.le_of_ble_eq_true rfl) (by omega) (by omega) (fun E h' n' _ z => pmc_x z) (pmc_k ox_next (fun u un ub uk uv uR uF => ?_))
  refine sw_istore (pc' := 1014) (lv' := [(6, _), (5, _), (4, _), (3, _), (2, _), (1, _), (0, _)]) rfl dL_law_1012 (by decide +kernel) rfl ?_
  refine sw_goto (tgt := 1944) dL_law_1014 (by decide +kernel) ?_
  have J : LI L xs u un (opNext σ (xs (i + 1))).2 (N + 12) := ⟨pR.frT (fun i hi => uF i (by omega) (by omega)), ⟨_, uR⟩, hT.fr (fun i hi => (uF i (by omega) (by omega)).trans (pF i (by omega) (by omega) (by omega))), iv_next hV, ⟨_, _, (uF 158 (by omega) (by omega)).trans pO⟩, (uF 0 (by omega) (by omega)).trans ((pF 0 (by omega) (by omega) (by omega)).trans hs), by omega⟩
  exact SW.pick [2, 3, 4, 5, 6] rfl ((K u un _ (by omega) J).bud (by omega) (by omega))
theorem lc_17 {L : Nat} {xs : Nat → Int32} {h : AH} {n i N d bc bs : Nat} {σ : CS} {Post : ARes → AH → Nat → Prop} (hI : LI L xs h n σ N) (hN : N < 2 ^ 31) (hL : L ≤ 3072) (hi : i + 6 ≤ L) (hd : 20 ≤ d) (h1 : 380 ≤ bc) (h2 : 4500 ≤ bs) (K : ∀ (h' : AH) (n' : Nat) (σ' : CS), n ≤ n' → LI L xs h' n' σ' (N + 12) → SW SR0 ML_law d (bc - 380) (bs - 4500) 1944 [(4, .int (nI i)), (3, .ref 158), (2, .ref 135), (1, .ref 100), (0, .ref 0)] [] h' n' Post) : SW SR0 ML_law d bc bs 1017 [(4, .int (nI i)), (3, .ref 158), (2, .ref 135), (1, .ref 100), (0, .ref 0)] [] h n Post := by
  obtain ⟨hR, ⟨th, hQ⟩, hT, hV, ⟨w, s, hO⟩, hs, hn⟩ := hI
  refine sw_aload_n (pc' := 1018) rfl dL_law_1017 rfl ?_
  refine sw_aload_n (pc' := 1019) rfl dL_law_1018 rfl ?_
  refine sw_iload (pc' := 1021) rfl dL_law_1019 rfl ?_
  refine sw_iconst (pc' := 1022) (v := 1) rfl dL_law_1021 (by decide +kernel) ?_
  refine sw_iadd (pc' := 1023) rfl dL_law_1022 ?_
  rw [show (nI i) + 1 = nI (i + 1) from nI_add _ _]
  refine sw_iald (j := i + 1) (pc' := 1024) rfl dL_law_1023 hs rfl (by omega) (by omega) ?_
  refine sw_aload_n (pc' := 1025) rfl dL_law_1024 rfl ?_
  refine sw_S (M' := ML_more) (d' := d - 1) (bc' := 60) (bs' := 400) (as := [_, _, _]) dL_law_1025 w_644 ok_L_more (L_more hR hT hV hN hO hn (by omega) (Nat.le_refl _) (Nat.le_refl _)) (by omega) (Nat.le_of_ble_eq_true rfl) (by omega) (by omega) (fun E h' n' _ z => lpo_x z) (lpo_k (fun p pn pw ps pk pR pO pv pF => ?_))
  refine sw_istore (pc' := 1030) (lv' := [(5, _), (4, _), (3, _), (2, _), (1, _), (0, _)]) rfl dL_law_1028 (by decide +kernel) rfl ?_
  refine sw_aload_n (pc' := 1031) rfl dL_law_1030 rfl ?_
  refine sw_aload_n (pc' := 1032) rfl dL_law_1031 rfl ?_
  refine sw_iload (pc' := 1034) rfl dL_law_1032 rfl ?_
  refine sw_iconst (pc' := 1035) (v := 1) rfl dL_law_1034 (by decide +kernel) ?_
  refine sw_iadd (pc' := 1036) rfl dL_law_1035 ?_
  rw [show (nI i) + 1 = nI (i + 1) from nI_add _ _]
  refine sw_iald (j := i + 1) (pc' := 1037) rfl dL_law_1036 ((pF 0 (by omega) (by omega) (by omega)).trans hs) rfl (by omega) (by omega) ?_
  have hQ2 := hQ.fr (fun i a b => pF i (by omega) (by omega) (by omega))
  obtain ⟨ρ, τ, hM, hA⟩ := id hQ2
  refine sw_V (M' := MX5_more) (d' := d - 1) (bc' := 1) (bs' := 12) (ci := 6) (as := [_]) dL_law_1037 w_1329 ok_X5_more (q_more hQ2 (hV.iv hN) (by omega) (by omega) (Nat.le_refl _) (Nat.le_refl _)) hM.ob rfl (by omega) (Nat.le_of_ble_eq_true rfl) (by omega) (by omega) (fun E h' n' _ z => pmc_x z) (pmc_k ox_more (fun u un ub uk uv uR uF => ?_))
  refine sw_istore (pc' := 1042) (lv' := [(6, _), (5, _), (4, _), (3, _), (2, _), (1, _), (0, _)]) rfl dL_law_1040 (by decide +kernel) rfl ?_
  refine sw_goto (tgt := 1944) dL_law_1042 (by decide +kernel) ?_
  have J : LI L xs u un (opMore σ (xs (i + 1))).2 (N + 12) := ⟨pR.frT (fun i hi => uF i (by omega) (by omega)), ⟨_, uR⟩, hT.fr (fun i hi => (uF i (by omega) (by omega)).trans (pF i (by omega) (by omega) (by omega))), iv_more hV, ⟨_, _, (uF 158 (by omega) (by omega)).trans pO⟩, (uF 0 (by omega) (by omega)).trans ((pF 0 (by omega) (by omega) (by omega)).trans hs), by omega⟩
  exact SW.pick [2, 3, 4, 5, 6] rfl ((K u un _ (by omega) J).bud (by omega) (by omega))
theorem lc_18 {L : Nat} {xs : Nat → Int32} {h : AH} {n i N d bc bs : Nat} {σ : CS} {Post : ARes → AH → Nat → Prop} (hI : LI L xs h n σ N) (hN : N < 2 ^ 31) (hL : L ≤ 3072) (hi : i + 6 ≤ L) (hd : 20 ≤ d) (h1 : 380 ≤ bc) (h2 : 4500 ≤ bs) (K : ∀ (h' : AH) (n' : Nat) (σ' : CS), n ≤ n' → LI L xs h' n' σ' (N + 12) → SW SR0 ML_law d (bc - 380) (bs - 4500) 1944 [(4, .int (nI i)), (3, .ref 158), (2, .ref 135), (1, .ref 100), (0, .ref 0)] [] h' n' Post) : SW SR0 ML_law d bc bs 1045 [(4, .int (nI i)), (3, .ref 158), (2, .ref 135), (1, .ref 100), (0, .ref 0)] [] h n Post := by
  obtain ⟨hR, ⟨th, hQ⟩, hT, hV, ⟨w, s, hO⟩, hs, hn⟩ := hI
  refine sw_aload_n (pc' := 1046) rfl dL_law_1045 rfl ?_
  refine sw_aload_n (pc' := 1047) rfl dL_law_1046 rfl ?_
  refine sw_iload (pc' := 1049) rfl dL_law_1047 rfl ?_
  refine sw_iconst (pc' := 1050) (v := 1) rfl dL_law_1049 (by decide +kernel) ?_
  refine sw_iadd (pc' := 1051) rfl dL_law_1050 ?_
  rw [show (nI i) + 1 = nI (i + 1) from nI_add _ _]
  refine sw_iald (j := i + 1) (pc' := 1052) rfl dL_law_1051 hs rfl (by omega) (by omega) ?_
  refine sw_aload_n (pc' := 1053) rfl dL_law_1052 rfl ?_
  refine sw_S (M' := ML_takeOut) (d' := d - 1) (bc' := 60) (bs' := 400) (as := [_, _, _]) dL_law_1053 w_651 ok_L_takeOut (L_takeOut hR hT hV hN hO hn (by omega) (Nat.le_refl _) (Nat.le_refl _)) (by omega) (Nat.le_of_ble_eq_true rfl) (by omega) (by omega) (fun E h' n' _ z => lpo_x z) (lpo_k (fun p pn pw ps pk pR pO pv pF => ?_))
  refine sw_istore (pc' := 1058) (lv' := [(5, _), (4, _), (3, _), (2, _), (1, _), (0, _)]) rfl dL_law_1056 (by decide +kernel) rfl ?_
  refine sw_aload_n (pc' := 1059) rfl dL_law_1058 rfl ?_
  refine sw_aload_n (pc' := 1060) rfl dL_law_1059 rfl ?_
  refine sw_iload (pc' := 1062) rfl dL_law_1060 rfl ?_
  refine sw_iconst (pc' := 1063) (v := 1) rfl dL_law_1062 (by decide +kernel) ?_
  refine sw_iadd (pc' := 1064) rfl dL_law_1063 ?_
  rw [show (nI i) + 1 = nI (i + 1) from nI_add _ _]
  refine sw_iald (j := i + 1) (pc' := 1065) rfl dL_law_1064 ((pF 0 (by omega) (by omega) (by omega)).trans hs) rfl (by omega) (by omega) ?_
  have hQ2 := hQ.fr (fun i a b => pF i (by omega) (by omega) (by omega))
  obtain ⟨ρ, τ, hM, hA⟩ := id hQ2
  refine sw_V (M' := MX5_takeOut) (d' := d - 1) (bc' := 1) (bs' := 12) (ci := 6) (as := [_]) dL_law_1065 w_1333 ok_X5_takeOut (q_takeOut hQ2 (hV.iv hN) (by omega) (by omega) (Nat.le_refl _) (Nat.le_refl _)) hM.ob rfl (by omega) (Nat.le_of_ble_eq_true rfl) (by omega) (by omega) (fun E h' n' _ z => pmc_x z) (pmc_k ox_takeOut (fun u un ub uk uv uR uF => ?_))
  refine sw_istore (pc' := 1070) (lv' := [(6, _), (5, _), (4, _), (3, _), (2, _), (1, _), (0, _)]) rfl dL_law_1068 (by decide +kernel) rfl ?_
  refine sw_goto (tgt := 1944) dL_law_1070 (by decide +kernel) ?_
  have J : LI L xs u un (opTakeOut σ (xs (i + 1))).2 (N + 12) := ⟨pR.frT (fun i hi => uF i (by omega) (by omega)), ⟨_, uR⟩, hT.fr (fun i hi => (uF i (by omega) (by omega)).trans (pF i (by omega) (by omega) (by omega))), iv_takeOut hV hN, ⟨_, _, (uF 158 (by omega) (by omega)).trans pO⟩, (uF 0 (by omega) (by omega)).trans ((pF 0 (by omega) (by omega) (by omega)).trans hs), by omega⟩
  exact SW.pick [2, 3, 4, 5, 6] rfl ((K u un _ (by omega) J).bud (by omega) (by omega))
theorem lc_19 {L : Nat} {xs : Nat → Int32} {h : AH} {n i N d bc bs : Nat} {σ : CS} {Post : ARes → AH → Nat → Prop} (hI : LI L xs h n σ N) (hN : N < 2 ^ 31) (hL : L ≤ 3072) (hi : i + 6 ≤ L) (hd : 20 ≤ d) (h1 : 380 ≤ bc) (h2 : 4500 ≤ bs) (K : ∀ (h' : AH) (n' : Nat) (σ' : CS), n ≤ n' → LI L xs h' n' σ' (N + 12) → SW SR0 ML_law d (bc - 380) (bs - 4500) 1944 [(4, .int (nI i)), (3, .ref 158), (2, .ref 135), (1, .ref 100), (0, .ref 0)] [] h' n' Post) : SW SR0 ML_law d bc bs 1073 [(4, .int (nI i)), (3, .ref 158), (2, .ref 135), (1, .ref 100), (0, .ref 0)] [] h n Post := by
  obtain ⟨hR, ⟨th, hQ⟩, hT, hV, ⟨w, s, hO⟩, hs, hn⟩ := hI
  refine sw_aload_n (pc' := 1074) rfl dL_law_1073 rfl ?_
  refine sw_aload_n (pc' := 1075) rfl dL_law_1074 rfl ?_
  refine sw_iload (pc' := 1077) rfl dL_law_1075 rfl ?_
  refine sw_iconst (pc' := 1078) (v := 1) rfl dL_law_1077 (by decide +kernel) ?_
  refine sw_iadd (pc' := 1079) rfl dL_law_1078 ?_
  rw [show (nI i) + 1 = nI (i + 1) from nI_add _ _]
  refine sw_iald (j := i + 1) (pc' := 1080) rfl dL_law_1079 hs rfl (by omega) (by omega) ?_
  refine sw_aload_n (pc' := 1081) rfl dL_law_1080 rfl ?_
  refine sw_S (M' := ML_rest) (d' := d - 1) (bc' := 60) (bs' := 400) (as := [_, _, _]) dL_law_1081 w_666 ok_L_rest (L_rest hR hT hV hN hO hn (by omega) (Nat.le_refl _) (Nat.le_refl _)) (by omega) (Nat.le_of_ble_eq_true rfl) (by omega) (by omega) (fun E h' n' _ z => lpo_x z) (lpo_k (fun p pn pw ps pk pR pO pv pF => ?_))
  refine sw_istore (pc' := 1086) (lv' := [(5, _), (4, _), (3, _), (2, _), (1, _), (0, _)]) rfl dL_law_1084 (by decide +kernel) rfl ?_
  refine sw_aload_n (pc' := 1087) rfl dL_law_1086 rfl ?_
  refine sw_aload_n (pc' := 1088) rfl dL_law_1087 rfl ?_
  refine sw_iload (pc' := 1090) rfl dL_law_1088 rfl ?_
  refine sw_iconst (pc' := 1091) (v := 1) rfl dL_law_1090 (by decide +kernel) ?_
  refine sw_iadd (pc' := 1092) rfl dL_law_1091 ?_
  rw [show (nI i) + 1 = nI (i + 1) from nI_add _ _]
  refine sw_iald (j := i + 1) (pc' := 1093) rfl dL_law_1092 ((pF 0 (by omega) (by omega) (by omega)).trans hs) rfl (by omega) (by omega) ?_
  have hQ2 := hQ.fr (fun i a b => pF i (by omega) (by omega) (by omega))
  obtain ⟨ρ, τ, hM, hA⟩ := id hQ2
  have pT := hT.fr (fun i hi => pF i (by omega) (by omega) (by omega))
  refine sw_V (M' := MX5_rest) (d' := d - 1) (bc' := 200) (bs' := 2800) (ci := 6) (as := [_]) dL_law_1093 w_1337 ok_X5_rest (q_rest hQ2 (hV.iv hN) (by omega) (by omega) (Nat.le_refl _) (Nat.le_refl _) pT) hM.ob rfl (by omega) (Nat.le_of_ble_eq_true rfl) (by omega) (by omega) (fun E h' n' _ z => ptc_x z) (ptc_k (fun u un ux uP => ?_))
  obtain ⟨uk, -, uR, uF⟩ := uP
  refine sw_astore (pc' := 1098) (lv' := [(6, _), (5, _), (4, _), (3, _), (2, _), (1, _), (0, _)]) rfl dL_law_1096 (by decide +kernel) rfl ?_
  refine sw_goto (tgt := 1944) dL_law_1098 (by decide +kernel) ?_
  have J : LI L xs u un (opRest σ (xs (i + 1))).2 (N + 12) := ⟨pR.frT (fun i hi => uF i (by omega) (by omega)), ⟨_, uR⟩, hT.fr (fun i hi => (uF i (by omega) (by omega)).trans (pF i (by omega) (by omega) (by omega))), iv_rest hV, ⟨_, _, (uF 158 (by omega) (by omega)).trans pO⟩, (uF 0 (by omega) (by omega)).trans ((pF 0 (by omega) (by omega) (by omega)).trans hs), by omega⟩
  exact SW.pick [2, 3, 4, 5, 6] rfl ((K u un _ (by omega) J).bud (by omega) (by omega))
theorem lc_20 {L : Nat} {xs : Nat → Int32} {h : AH} {n i N d bc bs : Nat} {σ : CS} {Post : ARes → AH → Nat → Prop} (hI : LI L xs h n σ N) (hN : N < 2 ^ 31) (hL : L ≤ 3072) (hi : i + 6 ≤ L) (hd : 20 ≤ d) (h1 : 380 ≤ bc) (h2 : 4500 ≤ bs) (K : ∀ (h' : AH) (n' : Nat) (σ' : CS), n ≤ n' → LI L xs h' n' σ' (N + 12) → SW SR0 ML_law d (bc - 380) (bs - 4500) 1944 [(4, .int (nI i)), (3, .ref 158), (2, .ref 135), (1, .ref 100), (0, .ref 0)] [] h' n' Post) : SW SR0 ML_law d bc bs 1101 [(4, .int (nI i)), (3, .ref 158), (2, .ref 135), (1, .ref 100), (0, .ref 0)] [] h n Post := by
  obtain ⟨hR, ⟨th, hQ⟩, hT, hV, ⟨w, s, hO⟩, hs, hn⟩ := hI
  refine sw_aload_n (pc' := 1102) rfl dL_law_1101 rfl ?_
  refine sw_aload_n (pc' := 1103) rfl dL_law_1102 rfl ?_
  refine sw_iload (pc' := 1105) rfl dL_law_1103 rfl ?_
  refine sw_iconst (pc' := 1106) (v := 1) rfl dL_law_1105 (by decide +kernel) ?_
  refine sw_iadd (pc' := 1107) rfl dL_law_1106 ?_
  rw [show (nI i) + 1 = nI (i + 1) from nI_add _ _]
  refine sw_iald (j := i + 1) (pc' := 1108) rfl dL_law_1107 hs rfl (by omega) (by omega) ?_
  refine sw_aload_n (pc' := 1109) rfl dL_law_1108 rfl ?_
  refine sw_iload (pc' := 1111) rfl dL_law_1109 rfl ?_
  refine sw_iconst (pc' := 1112) (v := 2) rfl dL_law_1111 (by decide +kernel) ?_
  refine sw_iadd (pc' := 1113) rfl dL_law_1112 ?_
  rw [show (nI i) + 2 = nI (i + 2) from nI_add _ _]
  refine sw_iald (j := i + 2) (pc' := 1114) rfl dL_law_1113 hs rfl (by omega) (by omega) ?_
  refine sw_aload_n (pc' := 1115) rfl dL_law_1114 rfl ?_
  refine sw_S (M' := ML_keepRest) (d' := d - 1) (bc' := 60) (bs' := 400) (as := [_, _, _, _]) dL_law_1115 w_952 ok_L_keepRest (L_keepRest hR hT hV hN hO hn (by omega) (Nat.le_refl _) (Nat.le_refl _)) (by omega) (Nat.le_of_ble_eq_true rfl) (by omega) (by omega) (fun E h' n' _ z => lpo_x z) (lpo_k (fun p pn pw ps pk pR pO pv pF => ?_))
  refine sw_istore (pc' := 1120) (lv' := [(5, _), (4, _), (3, _), (2, _), (1, _), (0, _)]) rfl dL_law_1118 (by decide +kernel) rfl ?_
  refine sw_aload_n (pc' := 1121) rfl dL_law_1120 rfl ?_
  refine sw_aload_n (pc' := 1122) rfl dL_law_1121 rfl ?_
  refine sw_iload (pc' := 1124) rfl dL_law_1122 rfl ?_
  refine sw_iconst (pc' := 1125) (v := 1) rfl dL_law_1124 (by decide +kernel) ?_
  refine sw_iadd (pc' := 1126) rfl dL_law_1125 ?_
  rw [show (nI i) + 1 = nI (i + 1) from nI_add _ _]
  refine sw_iald (j := i + 1) (pc' := 1127) rfl dL_law_1126 ((pF 0 (by omega) (by omega) (by omega)).trans hs) rfl (by omega) (by omega) ?_
  refine sw_aload_n (pc' := 1128) rfl dL_law_1127 rfl ?_
  refine sw_iload (pc' := 1130) rfl dL_law_1128 rfl ?_
  refine sw_iconst (pc' := 1131) (v := 2) rfl dL_law_1130 (by decide +kernel) ?_
  refine sw_iadd (pc' := 1132) rfl dL_law_1131 ?_
  rw [show (nI i) + 2 = nI (i + 2) from nI_add _ _]
  refine sw_iald (j := i + 2) (pc' := 1133) rfl dL_law_1132 ((pF 0 (by omega) (by omega) (by omega)).trans hs) rfl (by omega) (by omega) ?_
  have hQ2 := hQ.fr (fun i a b => pF i (by omega) (by omega) (by omega))
  obtain ⟨ρ, τ, hM, hA⟩ := id hQ2
  refine sw_V (M' := MX5_keepRest) (d' := d - 1) (bc' := 1) (bs' := 12) (ci := 6) (as := [_, _]) dL_law_1133 w_1364 ok_X5_keepRest (q_keepRest hQ2 (hV.iv hN) (by omega) (by omega) (Nat.le_refl _) (Nat.le_refl _)) hM.ob rfl (by omega) (Nat.le_of_ble_eq_true rfl) (by omega) (by omega) (fun E h' n' _ z => pmc_x z) (pmc_k ox_keepRest (fun u un ub uk uv uR uF => ?_))
  refine sw_istore (pc' := 1138) (lv' := [(6, _), (5, _), (4, _), (3, _), (2, _), (1, _), (0, _)]) rfl dL_law_1136 (by decide +kernel) rfl ?_
  refine sw_goto (tgt := 1944) dL_law_1138 (by decide +kernel) ?_
  have J : LI L xs u un (opKeepRest σ (xs (i + 1)) (xs (i + 2))).2 (N + 12) := ⟨pR.frT (fun i hi => uF i (by omega) (by omega)), ⟨_, uR⟩, hT.fr (fun i hi => (uF i (by omega) (by omega)).trans (pF i (by omega) (by omega) (by omega))), iv_keepRest hV, ⟨_, _, (uF 158 (by omega) (by omega)).trans pO⟩, (uF 0 (by omega) (by omega)).trans ((pF 0 (by omega) (by omega) (by omega)).trans hs), by omega⟩
  exact SW.pick [2, 3, 4, 5, 6] rfl ((K u un _ (by omega) J).bud (by omega) (by omega))
theorem lc_21 {L : Nat} {xs : Nat → Int32} {h : AH} {n i N d bc bs : Nat} {σ : CS} {Post : ARes → AH → Nat → Prop} (hI : LI L xs h n σ N) (hN : N < 2 ^ 31) (hL : L ≤ 3072) (hi : i + 6 ≤ L) (hd : 20 ≤ d) (h1 : 380 ≤ bc) (h2 : 4500 ≤ bs) (K : ∀ (h' : AH) (n' : Nat) (σ' : CS), n ≤ n' → LI L xs h' n' σ' (N + 12) → SW SR0 ML_law d (bc - 380) (bs - 4500) 1944 [(4, .int (nI i)), (3, .ref 158), (2, .ref 135), (1, .ref 100), (0, .ref 0)] [] h' n' Post) : SW SR0 ML_law d bc bs 1141 [(4, .int (nI i)), (3, .ref 158), (2, .ref 135), (1, .ref 100), (0, .ref 0)] [] h n Post := by
  obtain ⟨hR, ⟨th, hQ⟩, hT, hV, ⟨w, s, hO⟩, hs, hn⟩ := hI
  refine sw_aload_n (pc' := 1142) rfl dL_law_1141 rfl ?_
  refine sw_aload_n (pc' := 1143) rfl dL_law_1142 rfl ?_
  refine sw_iload (pc' := 1145) rfl dL_law_1143 rfl ?_
  refine sw_iconst (pc' := 1146) (v := 1) rfl dL_law_1145 (by decide +kernel) ?_
  refine sw_iadd (pc' := 1147) rfl dL_law_1146 ?_
  rw [show (nI i) + 1 = nI (i + 1) from nI_add _ _]
  refine sw_iald (j := i + 1) (pc' := 1148) rfl dL_law_1147 hs rfl (by omega) (by omega) ?_
  refine sw_aload_n (pc' := 1149) rfl dL_law_1148 rfl ?_
  refine sw_iload (pc' := 1151) rfl dL_law_1149 rfl ?_
  refine sw_iconst (pc' := 1152) (v := 2) rfl dL_law_1151 (by decide +kernel) ?_
  refine sw_iadd (pc' := 1153) rfl dL_law_1152 ?_
  rw [show (nI i) + 2 = nI (i + 2) from nI_add _ _]
  refine sw_iald (j := i + 2) (pc' := 1154) rfl dL_law_1153 hs rfl (by omega) (by omega) ?_
  refine sw_aload_n (pc' := 1155) rfl dL_law_1154 rfl ?_
  refine sw_S (M' := ML_keep) (d' := d - 1) (bc' := 60) (bs' := 400) (as := [_, _, _, _]) dL_law_1155 w_964 ok_L_keep (L_keep hR hT hV hN hO hn (by omega) (Nat.le_refl _) (Nat.le_refl _)) (by omega) (Nat.le_of_ble_eq_true rfl) (by omega) (by omega) (fun E h' n' _ z => lpo_x z) (lpo_k (fun p pn pw ps pk pR pO pv pF => ?_))
  refine sw_istore (pc' := 1160) (lv' := [(5, _), (4, _), (3, _), (2, _), (1, _), (0, _)]) rfl dL_law_1158 (by decide +kernel) rfl ?_
  refine sw_aload_n (pc' := 1161) rfl dL_law_1160 rfl ?_
  refine sw_aload_n (pc' := 1162) rfl dL_law_1161 rfl ?_
  refine sw_iload (pc' := 1164) rfl dL_law_1162 rfl ?_
  refine sw_iconst (pc' := 1165) (v := 1) rfl dL_law_1164 (by decide +kernel) ?_
  refine sw_iadd (pc' := 1166) rfl dL_law_1165 ?_
  rw [show (nI i) + 1 = nI (i + 1) from nI_add _ _]
  refine sw_iald (j := i + 1) (pc' := 1167) rfl dL_law_1166 ((pF 0 (by omega) (by omega) (by omega)).trans hs) rfl (by omega) (by omega) ?_
  refine sw_aload_n (pc' := 1168) rfl dL_law_1167 rfl ?_
  refine sw_iload (pc' := 1170) rfl dL_law_1168 rfl ?_
  refine sw_iconst (pc' := 1171) (v := 2) rfl dL_law_1170 (by decide +kernel) ?_
  refine sw_iadd (pc' := 1172) rfl dL_law_1171 ?_
  rw [show (nI i) + 2 = nI (i + 2) from nI_add _ _]
  refine sw_iald (j := i + 2) (pc' := 1173) rfl dL_law_1172 ((pF 0 (by omega) (by omega) (by omega)).trans hs) rfl (by omega) (by omega) ?_
  have hQ2 := hQ.fr (fun i a b => pF i (by omega) (by omega) (by omega))
  obtain ⟨ρ, τ, hM, hA⟩ := id hQ2
  refine sw_V (M' := MX5_keep) (d' := d - 1) (bc' := 1) (bs' := 12) (ci := 6) (as := [_, _]) dL_law_1173 w_1375 ok_X5_keep (q_keep hQ2 (hV.iv hN) (by omega) (by omega) (Nat.le_refl _) (Nat.le_refl _)) hM.ob rfl (by omega) (Nat.le_of_ble_eq_true rfl) (by omega) (by omega) (fun E h' n' _ z => pmc_x z) (pmc_k ox_keep (fun u un ub uk uv uR uF => ?_))
  refine sw_istore (pc' := 1178) (lv' := [(6, _), (5, _), (4, _), (3, _), (2, _), (1, _), (0, _)]) rfl dL_law_1176 (by decide +kernel) rfl ?_
  refine sw_goto (tgt := 1944) dL_law_1178 (by decide +kernel) ?_
  have J : LI L xs u un (opKeep σ (xs (i + 1)) (xs (i + 2))).2 (N + 12) := ⟨pR.frT (fun i hi => uF i (by omega) (by omega)), ⟨_, uR⟩, hT.fr (fun i hi => (uF i (by omega) (by omega)).trans (pF i (by omega) (by omega) (by omega))), iv_keep hV, ⟨_, _, (uF 158 (by omega) (by omega)).trans pO⟩, (uF 0 (by omega) (by omega)).trans ((pF 0 (by omega) (by omega) (by omega)).trans hs), by omega⟩
  exact SW.pick [2, 3, 4, 5, 6] rfl ((K u un _ (by omega) J).bud (by omega) (by omega))
theorem lc_22 {L : Nat} {xs : Nat → Int32} {h : AH} {n i N d bc bs : Nat} {σ : CS} {Post : ARes → AH → Nat → Prop} (hI : LI L xs h n σ N) (hN : N < 2 ^ 31) (hL : L ≤ 3072) (hi : i + 6 ≤ L) (hd : 20 ≤ d) (h1 : 380 ≤ bc) (h2 : 4500 ≤ bs) (K : ∀ (h' : AH) (n' : Nat) (σ' : CS), n ≤ n' → LI L xs h' n' σ' (N + 12) → SW SR0 ML_law d (bc - 380) (bs - 4500) 1944 [(4, .int (nI i)), (3, .ref 158), (2, .ref 135), (1, .ref 100), (0, .ref 0)] [] h' n' Post) : SW SR0 ML_law d bc bs 1181 [(4, .int (nI i)), (3, .ref 158), (2, .ref 135), (1, .ref 100), (0, .ref 0)] [] h n Post := by
  obtain ⟨hR, ⟨th, hQ⟩, hT, hV, ⟨w, s, hO⟩, hs, hn⟩ := hI
  refine sw_aload_n (pc' := 1182) rfl dL_law_1181 rfl ?_
  refine sw_aload_n (pc' := 1183) rfl dL_law_1182 rfl ?_
  refine sw_iload (pc' := 1185) rfl dL_law_1183 rfl ?_
  refine sw_iconst (pc' := 1186) (v := 1) rfl dL_law_1185 (by decide +kernel) ?_
  refine sw_iadd (pc' := 1187) rfl dL_law_1186 ?_
  rw [show (nI i) + 1 = nI (i + 1) from nI_add _ _]
  refine sw_iald (j := i + 1) (pc' := 1188) rfl dL_law_1187 hs rfl (by omega) (by omega) ?_
  refine sw_aload_n (pc' := 1189) rfl dL_law_1188 rfl ?_
  refine sw_S (M' := ML_drop) (d' := d - 1) (bc' := 60) (bs' := 400) (as := [_, _, _]) dL_law_1189 w_971 ok_L_drop (L_drop hR hT hV hN hO hn (by omega) (Nat.le_refl _) (Nat.le_refl _)) (by omega) (Nat.le_of_ble_eq_true rfl) (by omega) (by omega) (fun E h' n' _ z => lpo_x z) (lpo_k (fun p pn pw ps pk pR pO pv pF => ?_))
  refine sw_istore (pc' := 1194) (lv' := [(5, _), (4, _), (3, _), (2, _), (1, _), (0, _)]) rfl dL_law_1192 (by decide +kernel) rfl ?_
  refine sw_aload_n (pc' := 1195) rfl dL_law_1194 rfl ?_
  refine sw_aload_n (pc' := 1196) rfl dL_law_1195 rfl ?_
  refine sw_iload (pc' := 1198) rfl dL_law_1196 rfl ?_
  refine sw_iconst (pc' := 1199) (v := 1) rfl dL_law_1198 (by decide +kernel) ?_
  refine sw_iadd (pc' := 1200) rfl dL_law_1199 ?_
  rw [show (nI i) + 1 = nI (i + 1) from nI_add _ _]
  refine sw_iald (j := i + 1) (pc' := 1201) rfl dL_law_1200 ((pF 0 (by omega) (by omega) (by omega)).trans hs) rfl (by omega) (by omega) ?_
  have hQ2 := hQ.fr (fun i a b => pF i (by omega) (by omega) (by omega))
  obtain ⟨ρ, τ, hM, hA⟩ := id hQ2
  refine sw_V (M' := MX5_drop) (d' := d - 1) (bc' := 1) (bs' := 12) (ci := 6) (as := [_]) dL_law_1201 w_1379 ok_X5_drop (q_drop hQ2 (hV.iv hN) (by omega) (by omega) (Nat.le_refl _) (Nat.le_refl _)) hM.ob rfl (by omega) (Nat.le_of_ble_eq_true rfl) (by omega) (by omega) (fun E h' n' _ z => pmc_x z) (pmc_k ox_drop (fun u un ub uk uv uR uF => ?_))
  refine sw_istore (pc' := 1206) (lv' := [(6, _), (5, _), (4, _), (3, _), (2, _), (1, _), (0, _)]) rfl dL_law_1204 (by decide +kernel) rfl ?_
  refine sw_goto (tgt := 1944) dL_law_1206 (by decide +kernel) ?_
  have J : LI L xs u un (opDrop σ (xs (i + 1))).2 (N + 12) := ⟨pR.frT (fun i hi => uF i (by omega) (by omega)), ⟨_, uR⟩, hT.fr (fun i hi => (uF i (by omega) (by omega)).trans (pF i (by omega) (by omega) (by omega))), iv_drop hV, ⟨_, _, (uF 158 (by omega) (by omega)).trans pO⟩, (uF 0 (by omega) (by omega)).trans ((pF 0 (by omega) (by omega) (by omega)).trans hs), by omega⟩
  exact SW.pick [2, 3, 4, 5, 6] rfl ((K u un _ (by omega) J).bud (by omega) (by omega))
theorem lc_23 {L : Nat} {xs : Nat → Int32} {h : AH} {n i N d bc bs : Nat} {σ : CS} {Post : ARes → AH → Nat → Prop} (hI : LI L xs h n σ N) (hN : N < 2 ^ 31) (hL : L ≤ 3072) (hi : i + 6 ≤ L) (hd : 20 ≤ d) (h1 : 380 ≤ bc) (h2 : 4500 ≤ bs) (K : ∀ (h' : AH) (n' : Nat) (σ' : CS), n ≤ n' → LI L xs h' n' σ' (N + 12) → SW SR0 ML_law d (bc - 380) (bs - 4500) 1944 [(4, .int (nI i)), (3, .ref 158), (2, .ref 135), (1, .ref 100), (0, .ref 0)] [] h' n' Post) : SW SR0 ML_law d bc bs 1209 [(4, .int (nI i)), (3, .ref 158), (2, .ref 135), (1, .ref 100), (0, .ref 0)] [] h n Post := by
  obtain ⟨hR, ⟨th, hQ⟩, hT, hV, ⟨w, s, hO⟩, hs, hn⟩ := hI
  refine sw_aload_n (pc' := 1210) rfl dL_law_1209 rfl ?_
  refine sw_aload_n (pc' := 1211) rfl dL_law_1210 rfl ?_
  refine sw_iload (pc' := 1213) rfl dL_law_1211 rfl ?_
  refine sw_iconst (pc' := 1214) (v := 1) rfl dL_law_1213 (by decide +kernel) ?_
  refine sw_iadd (pc' := 1215) rfl dL_law_1214 ?_
  rw [show (nI i) + 1 = nI (i + 1) from nI_add _ _]
  refine sw_iald (j := i + 1) (pc' := 1216) rfl dL_law_1215 hs rfl (by omega) (by omega) ?_
  refine sw_aload_n (pc' := 1217) rfl dL_law_1216 rfl ?_
  refine sw_iload (pc' := 1219) rfl dL_law_1217 rfl ?_
  refine sw_iconst (pc' := 1220) (v := 2) rfl dL_law_1219 (by decide +kernel) ?_
  refine sw_iadd (pc' := 1221) rfl dL_law_1220 ?_
  rw [show (nI i) + 2 = nI (i + 2) from nI_add _ _]
  refine sw_iald (j := i + 2) (pc' := 1222) rfl dL_law_1221 hs rfl (by omega) (by omega) ?_
  refine sw_aload_n (pc' := 1223) rfl dL_law_1222 rfl ?_
  refine sw_S (M' := ML_skip) (d' := d - 1) (bc' := 60) (bs' := 400) (as := [_, _, _, _]) dL_law_1223 w_978 ok_L_skip (L_skip hR hT hV hN hO hn (by omega) (Nat.le_refl _) (Nat.le_refl _)) (by omega) (Nat.le_of_ble_eq_true rfl) (by omega) (by omega) (fun E h' n' _ z => lpo_x z) (lpo_k (fun p pn pw ps pk pR pO pv pF => ?_))
  refine sw_istore (pc' := 1228) (lv' := [(5, _), (4, _), (3, _), (2, _), (1, _), (0, _)]) rfl dL_law_1226 (by decide +kernel) rfl ?_
  refine sw_aload_n (pc' := 1229) rfl dL_law_1228 rfl ?_
  refine sw_aload_n (pc' := 1230) rfl dL_law_1229 rfl ?_
  refine sw_iload (pc' := 1232) rfl dL_law_1230 rfl ?_
  refine sw_iconst (pc' := 1233) (v := 1) rfl dL_law_1232 (by decide +kernel) ?_
  refine sw_iadd (pc' := 1234) rfl dL_law_1233 ?_
  rw [show (nI i) + 1 = nI (i + 1) from nI_add _ _]
  refine sw_iald (j := i + 1) (pc' := 1235) rfl dL_law_1234 ((pF 0 (by omega) (by omega) (by omega)).trans hs) rfl (by omega) (by omega) ?_
  refine sw_aload_n (pc' := 1236) rfl dL_law_1235 rfl ?_
  refine sw_iload (pc' := 1238) rfl dL_law_1236 rfl ?_
  refine sw_iconst (pc' := 1239) (v := 2) rfl dL_law_1238 (by decide +kernel) ?_
  refine sw_iadd (pc' := 1240) rfl dL_law_1239 ?_
  rw [show (nI i) + 2 = nI (i + 2) from nI_add _ _]
  refine sw_iald (j := i + 2) (pc' := 1241) rfl dL_law_1240 ((pF 0 (by omega) (by omega) (by omega)).trans hs) rfl (by omega) (by omega) ?_
  have hQ2 := hQ.fr (fun i a b => pF i (by omega) (by omega) (by omega))
  obtain ⟨ρ, τ, hM, hA⟩ := id hQ2
  refine sw_V (M' := MX5_skip) (d' := d - 1) (bc' := 1) (bs' := 12) (ci := 6) (as := [_, _]) dL_law_1241 w_1383 ok_X5_skip (q_skip hQ2 (hV.iv hN) (by omega) (by omega) (Nat.le_refl _) (Nat.le_refl _)) hM.ob rfl (by omega) (Nat.le_of_ble_eq_true rfl) (by omega) (by omega) (fun E h' n' _ z => pmc_x z) (pmc_k ox_skip (fun u un ub uk uv uR uF => ?_))
  refine sw_istore (pc' := 1246) (lv' := [(6, _), (5, _), (4, _), (3, _), (2, _), (1, _), (0, _)]) rfl dL_law_1244 (by decide +kernel) rfl ?_
  refine sw_goto (tgt := 1944) dL_law_1246 (by decide +kernel) ?_
  have J : LI L xs u un (opSkip σ (xs (i + 1)) (xs (i + 2))).2 (N + 12) := ⟨pR.frT (fun i hi => uF i (by omega) (by omega)), ⟨_, uR⟩, hT.fr (fun i hi => (uF i (by omega) (by omega)).trans (pF i (by omega) (by omega) (by omega))), iv_skip hV, ⟨_, _, (uF 158 (by omega) (by omega)).trans pO⟩, (uF 0 (by omega) (by omega)).trans ((pF 0 (by omega) (by omega) (by omega)).trans hs), by omega⟩
  exact SW.pick [2, 3, 4, 5, 6] rfl ((K u un _ (by omega) J).bud (by omega) (by omega))
theorem lc_24 {L : Nat} {xs : Nat → Int32} {h : AH} {n i N d bc bs : Nat} {σ : CS} {Post : ARes → AH → Nat → Prop} (hI : LI L xs h n σ N) (hN : N < 2 ^ 31) (hL : L ≤ 3072) (hi : i + 6 ≤ L) (hd : 20 ≤ d) (h1 : 380 ≤ bc) (h2 : 4500 ≤ bs) (K : ∀ (h' : AH) (n' : Nat) (σ' : CS), n ≤ n' → LI L xs h' n' σ' (N + 12) → SW SR0 ML_law d (bc - 380) (bs - 4500) 1944 [(4, .int (nI i)), (3, .ref 158), (2, .ref 135), (1, .ref 100), (0, .ref 0)] [] h' n' Post) : SW SR0 ML_law d bc bs 1249 [(4, .int (nI i)), (3, .ref 158), (2, .ref 135), (1, .ref 100), (0, .ref 0)] [] h n Post := by
  obtain ⟨hR, ⟨th, hQ⟩, hT, hV, ⟨w, s, hO⟩, hs, hn⟩ := hI
  refine sw_aload_n (pc' := 1250) rfl dL_law_1249 rfl ?_
  refine sw_aload_n (pc' := 1251) rfl dL_law_1250 rfl ?_
  refine sw_iload (pc' := 1253) rfl dL_law_1251 rfl ?_
  refine sw_iconst (pc' := 1254) (v := 1) rfl dL_law_1253 (by decide +kernel) ?_
  refine sw_iadd (pc' := 1255) rfl dL_law_1254 ?_
  rw [show (nI i) + 1 = nI (i + 1) from nI_add _ _]
  refine sw_iald (j := i + 1) (pc' := 1256) rfl dL_law_1255 hs rfl (by omega) (by omega) ?_
  refine sw_aload_n (pc' := 1257) rfl dL_law_1256 rfl ?_
  refine sw_iload (pc' := 1259) rfl dL_law_1257 rfl ?_
  refine sw_iconst (pc' := 1260) (v := 2) rfl dL_law_1259 (by decide +kernel) ?_
  refine sw_iadd (pc' := 1261) rfl dL_law_1260 ?_
  rw [show (nI i) + 2 = nI (i + 2) from nI_add _ _]
  refine sw_iald (j := i + 2) (pc' := 1262) rfl dL_law_1261 hs rfl (by omega) (by omega) ?_
  refine sw_aload_n (pc' := 1263) rfl dL_law_1262 rfl ?_
  refine sw_S (M' := ML_pourRest) (d' := d - 1) (bc' := 60) (bs' := 400) (as := [_, _, _, _]) dL_law_1263 w_985 ok_L_pourRest (L_pourRest hR hT hV hN hO hn (by omega) (Nat.le_refl _) (Nat.le_refl _)) (by omega) (Nat.le_of_ble_eq_true rfl) (by omega) (by omega) (fun E h' n' _ z => lpo_x z) (lpo_k (fun p pn pw ps pk pR pO pv pF => ?_))
  refine sw_istore (pc' := 1268) (lv' := [(5, _), (4, _), (3, _), (2, _), (1, _), (0, _)]) rfl dL_law_1266 (by decide +kernel) rfl ?_
  refine sw_aload_n (pc' := 1269) rfl dL_law_1268 rfl ?_
  refine sw_aload_n (pc' := 1270) rfl dL_law_1269 rfl ?_
  refine sw_iload (pc' := 1272) rfl dL_law_1270 rfl ?_
  refine sw_iconst (pc' := 1273) (v := 1) rfl dL_law_1272 (by decide +kernel) ?_
  refine sw_iadd (pc' := 1274) rfl dL_law_1273 ?_
  rw [show (nI i) + 1 = nI (i + 1) from nI_add _ _]
  refine sw_iald (j := i + 1) (pc' := 1275) rfl dL_law_1274 ((pF 0 (by omega) (by omega) (by omega)).trans hs) rfl (by omega) (by omega) ?_
  refine sw_aload_n (pc' := 1276) rfl dL_law_1275 rfl ?_
  refine sw_iload (pc' := 1278) rfl dL_law_1276 rfl ?_
  refine sw_iconst (pc' := 1279) (v := 2) rfl dL_law_1278 (by decide +kernel) ?_
  refine sw_iadd (pc' := 1280) rfl dL_law_1279 ?_
  rw [show (nI i) + 2 = nI (i + 2) from nI_add _ _]
  refine sw_iald (j := i + 2) (pc' := 1281) rfl dL_law_1280 ((pF 0 (by omega) (by omega) (by omega)).trans hs) rfl (by omega) (by omega) ?_
  have hQ2 := hQ.fr (fun i a b => pF i (by omega) (by omega) (by omega))
  obtain ⟨ρ, τ, hM, hA⟩ := id hQ2
  refine sw_V (M' := MX5_pourRest) (d' := d - 1) (bc' := 1) (bs' := 12) (ci := 6) (as := [_, _]) dL_law_1281 w_1387 ok_X5_pourRest (q_pourRest hQ2 (hV.iv hN) (by omega) (by omega) (Nat.le_refl _) (Nat.le_refl _)) hM.ob rfl (by omega) (Nat.le_of_ble_eq_true rfl) (by omega) (by omega) (fun E h' n' _ z => pmc_x z) (pmc_k ox_pourRest (fun u un ub uk uv uR uF => ?_))
  refine sw_istore (pc' := 1286) (lv' := [(6, _), (5, _), (4, _), (3, _), (2, _), (1, _), (0, _)]) rfl dL_law_1284 (by decide +kernel) rfl ?_
  refine sw_goto (tgt := 1944) dL_law_1286 (by decide +kernel) ?_
  have J : LI L xs u un (opPourRest σ (xs (i + 1)) (xs (i + 2))).2 (N + 12) := ⟨pR.frT (fun i hi => uF i (by omega) (by omega)), ⟨_, uR⟩, hT.fr (fun i hi => (uF i (by omega) (by omega)).trans (pF i (by omega) (by omega) (by omega))), iv_pourRest hV hN, ⟨_, _, (uF 158 (by omega) (by omega)).trans pO⟩, (uF 0 (by omega) (by omega)).trans ((pF 0 (by omega) (by omega) (by omega)).trans hs), by omega⟩
  exact SW.pick [2, 3, 4, 5, 6] rfl ((K u un _ (by omega) J).bud (by omega) (by omega))
theorem lc_25 {L : Nat} {xs : Nat → Int32} {h : AH} {n i N d bc bs : Nat} {σ : CS} {Post : ARes → AH → Nat → Prop} (hI : LI L xs h n σ N) (hN : N < 2 ^ 31) (hL : L ≤ 3072) (hi : i + 6 ≤ L) (hd : 20 ≤ d) (h1 : 380 ≤ bc) (h2 : 4500 ≤ bs) (K : ∀ (h' : AH) (n' : Nat) (σ' : CS), n ≤ n' → LI L xs h' n' σ' (N + 12) → SW SR0 ML_law d (bc - 380) (bs - 4500) 1944 [(4, .int (nI i)), (3, .ref 158), (2, .ref 135), (1, .ref 100), (0, .ref 0)] [] h' n' Post) : SW SR0 ML_law d bc bs 1289 [(4, .int (nI i)), (3, .ref 158), (2, .ref 135), (1, .ref 100), (0, .ref 0)] [] h n Post := by
  obtain ⟨hR, ⟨th, hQ⟩, hT, hV, ⟨w, s, hO⟩, hs, hn⟩ := hI
  refine sw_aload_n (pc' := 1290) rfl dL_law_1289 rfl ?_
  refine sw_aload_n (pc' := 1291) rfl dL_law_1290 rfl ?_
  refine sw_iload (pc' := 1293) rfl dL_law_1291 rfl ?_
  refine sw_iconst (pc' := 1294) (v := 1) rfl dL_law_1293 (by decide +kernel) ?_
  refine sw_iadd (pc' := 1295) rfl dL_law_1294 ?_
  rw [show (nI i) + 1 = nI (i + 1) from nI_add _ _]
  refine sw_iald (j := i + 1) (pc' := 1296) rfl dL_law_1295 hs rfl (by omega) (by omega) ?_
  refine sw_aload_n (pc' := 1297) rfl dL_law_1296 rfl ?_
  refine sw_iload (pc' := 1299) rfl dL_law_1297 rfl ?_
  refine sw_iconst (pc' := 1300) (v := 2) rfl dL_law_1299 (by decide +kernel) ?_
  refine sw_iadd (pc' := 1301) rfl dL_law_1300 ?_
  rw [show (nI i) + 2 = nI (i + 2) from nI_add _ _]
  refine sw_iald (j := i + 2) (pc' := 1302) rfl dL_law_1301 hs rfl (by omega) (by omega) ?_
  refine sw_aload_n (pc' := 1303) rfl dL_law_1302 rfl ?_
  refine sw_S (M' := ML_zip) (d' := d - 1) (bc' := 60) (bs' := 400) (as := [_, _, _, _]) dL_law_1303 w_992 ok_L_zip (L_zip hR hT hV hN hO hn (by omega) (Nat.le_refl _) (Nat.le_refl _)) (by omega) (Nat.le_of_ble_eq_true rfl) (by omega) (by omega) (fun E h' n' _ z => lpo_x z) (lpo_k (fun p pn pw ps pk pR pO pv pF => ?_))
  refine sw_istore (pc' := 1308) (lv' := [(5, _), (4, _), (3, _), (2, _), (1, _), (0, _)]) rfl dL_law_1306 (by decide +kernel) rfl ?_
  refine sw_aload_n (pc' := 1309) rfl dL_law_1308 rfl ?_
  refine sw_aload_n (pc' := 1310) rfl dL_law_1309 rfl ?_
  refine sw_iload (pc' := 1312) rfl dL_law_1310 rfl ?_
  refine sw_iconst (pc' := 1313) (v := 1) rfl dL_law_1312 (by decide +kernel) ?_
  refine sw_iadd (pc' := 1314) rfl dL_law_1313 ?_
  rw [show (nI i) + 1 = nI (i + 1) from nI_add _ _]
  refine sw_iald (j := i + 1) (pc' := 1315) rfl dL_law_1314 ((pF 0 (by omega) (by omega) (by omega)).trans hs) rfl (by omega) (by omega) ?_
  refine sw_aload_n (pc' := 1316) rfl dL_law_1315 rfl ?_
  refine sw_iload (pc' := 1318) rfl dL_law_1316 rfl ?_
  refine sw_iconst (pc' := 1319) (v := 2) rfl dL_law_1318 (by decide +kernel) ?_
  refine sw_iadd (pc' := 1320) rfl dL_law_1319 ?_
  rw [show (nI i) + 2 = nI (i + 2) from nI_add _ _]
  refine sw_iald (j := i + 2) (pc' := 1321) rfl dL_law_1320 ((pF 0 (by omega) (by omega) (by omega)).trans hs) rfl (by omega) (by omega) ?_
  have hQ2 := hQ.fr (fun i a b => pF i (by omega) (by omega) (by omega))
  obtain ⟨ρ, τ, hM, hA⟩ := id hQ2
  have pT := hT.fr (fun i hi => pF i (by omega) (by omega) (by omega))
  refine sw_V (M' := MX5_zip) (d' := d - 1) (bc' := 300) (bs' := 3400) (ci := 6) (as := [_, _]) dL_law_1321 w_1391 ok_X5_zip (q_zip hQ2 (hV.iv hN) (by omega) (by omega) (Nat.le_refl _) (Nat.le_refl _) pT hV hN) hM.ob rfl (by omega) (Nat.le_of_ble_eq_true rfl) (by omega) (by omega) (fun E h' n' _ z => ptc_x z) (ptc_k (fun u un ux uP => ?_))
  obtain ⟨uk, -, uR, uF⟩ := uP
  refine sw_astore (pc' := 1326) (lv' := [(6, _), (5, _), (4, _), (3, _), (2, _), (1, _), (0, _)]) rfl dL_law_1324 (by decide +kernel) rfl ?_
  refine sw_goto (tgt := 1944) dL_law_1326 (by decide +kernel) ?_
  have J : LI L xs u un (opZip σ (xs (i + 1)) (xs (i + 2))).2 (N + 12) := ⟨pR.frT (fun i hi => uF i (by omega) (by omega)), ⟨_, uR⟩, hT.fr (fun i hi => (uF i (by omega) (by omega)).trans (pF i (by omega) (by omega) (by omega))), iv_zip hV, ⟨_, _, (uF 158 (by omega) (by omega)).trans pO⟩, (uF 0 (by omega) (by omega)).trans ((pF 0 (by omega) (by omega) (by omega)).trans hs), by omega⟩
  exact SW.pick [2, 3, 4, 5, 6] rfl ((K u un _ (by omega) J).bud (by omega) (by omega))
theorem lc_26 {L : Nat} {xs : Nat → Int32} {h : AH} {n i N d bc bs : Nat} {σ : CS} {Post : ARes → AH → Nat → Prop} (hI : LI L xs h n σ N) (hN : N < 2 ^ 31) (hL : L ≤ 3072) (hi : i + 6 ≤ L) (hd : 20 ≤ d) (h1 : 380 ≤ bc) (h2 : 4500 ≤ bs) (K : ∀ (h' : AH) (n' : Nat) (σ' : CS), n ≤ n' → LI L xs h' n' σ' (N + 12) → SW SR0 ML_law d (bc - 380) (bs - 4500) 1944 [(4, .int (nI i)), (3, .ref 158), (2, .ref 135), (1, .ref 100), (0, .ref 0)] [] h' n' Post) : SW SR0 ML_law d bc bs 1329 [(4, .int (nI i)), (3, .ref 158), (2, .ref 135), (1, .ref 100), (0, .ref 0)] [] h n Post := by
  obtain ⟨hR, ⟨th, hQ⟩, hT, hV, ⟨w, s, hO⟩, hs, hn⟩ := hI
  refine sw_aload_n (pc' := 1330) rfl dL_law_1329 rfl ?_
  refine sw_aload_n (pc' := 1331) rfl dL_law_1330 rfl ?_
  refine sw_iload (pc' := 1333) rfl dL_law_1331 rfl ?_
  refine sw_iconst (pc' := 1334) (v := 1) rfl dL_law_1333 (by decide +kernel) ?_
  refine sw_iadd (pc' := 1335) rfl dL_law_1334 ?_
  rw [show (nI i) + 1 = nI (i + 1) from nI_add _ _]
  refine sw_iald (j := i + 1) (pc' := 1336) rfl dL_law_1335 hs rfl (by omega) (by omega) ?_
  refine sw_aload_n (pc' := 1337) rfl dL_law_1336 rfl ?_
  refine sw_S (M' := ML_text) (d' := d - 1) (bc' := 60) (bs' := 400) (as := [_, _, _]) dL_law_1337 w_1000 ok_L_text (L_text hR hT hV hN hO hn (by omega) (Nat.le_refl _) (Nat.le_refl _)) (by omega) (Nat.le_of_ble_eq_true rfl) (by omega) (by omega) (fun E h' n' _ z => lpo_x z) (lpo_k (fun p pn pw ps pk pR pO pv pF => ?_))
  refine sw_istore (pc' := 1342) (lv' := [(5, _), (4, _), (3, _), (2, _), (1, _), (0, _)]) rfl dL_law_1340 (by decide +kernel) rfl ?_
  refine sw_aload_n (pc' := 1343) rfl dL_law_1342 rfl ?_
  refine sw_aload_n (pc' := 1344) rfl dL_law_1343 rfl ?_
  refine sw_iload (pc' := 1346) rfl dL_law_1344 rfl ?_
  refine sw_iconst (pc' := 1347) (v := 1) rfl dL_law_1346 (by decide +kernel) ?_
  refine sw_iadd (pc' := 1348) rfl dL_law_1347 ?_
  rw [show (nI i) + 1 = nI (i + 1) from nI_add _ _]
  refine sw_iald (j := i + 1) (pc' := 1349) rfl dL_law_1348 ((pF 0 (by omega) (by omega) (by omega)).trans hs) rfl (by omega) (by omega) ?_
  have hQ2 := hQ.fr (fun i a b => pF i (by omega) (by omega) (by omega))
  obtain ⟨ρ, τ, hM, hA⟩ := id hQ2
  have pT := hT.fr (fun i hi => pF i (by omega) (by omega) (by omega))
  refine sw_V (M' := MX5_text_) (d' := d - 1) (bc' := 200) (bs' := 2800) (ci := 6) (as := [_]) dL_law_1349 w_1400 ok_X5_text_ (q_text hQ2 (hV.iv hN) (by omega) (by omega) (Nat.le_refl _) (Nat.le_refl _) pT) hM.ob rfl (by omega) (Nat.le_of_ble_eq_true rfl) (by omega) (by omega) (fun E h' n' _ z => ptc_x z) (ptc_k (fun u un ux uP => ?_))
  obtain ⟨uk, -, uR, uF⟩ := uP
  refine sw_astore (pc' := 1354) (lv' := [(6, _), (5, _), (4, _), (3, _), (2, _), (1, _), (0, _)]) rfl dL_law_1352 (by decide +kernel) rfl ?_
  refine sw_goto (tgt := 1944) dL_law_1354 (by decide +kernel) ?_
  have J : LI L xs u un (opText σ (xs (i + 1))).2 (N + 12) := ⟨pR.frT (fun i hi => uF i (by omega) (by omega)), ⟨_, uR⟩, hT.fr (fun i hi => (uF i (by omega) (by omega)).trans (pF i (by omega) (by omega) (by omega))), iv_text hV, ⟨_, _, (uF 158 (by omega) (by omega)).trans pO⟩, (uF 0 (by omega) (by omega)).trans ((pF 0 (by omega) (by omega) (by omega)).trans hs), by omega⟩
  exact SW.pick [2, 3, 4, 5, 6] rfl ((K u un _ (by omega) J).bud (by omega) (by omega))
theorem lc_27 {L : Nat} {xs : Nat → Int32} {h : AH} {n i N d bc bs : Nat} {σ : CS} {Post : ARes → AH → Nat → Prop} (hI : LI L xs h n σ N) (hN : N < 2 ^ 31) (hL : L ≤ 3072) (hi : i + 6 ≤ L) (hd : 20 ≤ d) (h1 : 380 ≤ bc) (h2 : 4500 ≤ bs) (K : ∀ (h' : AH) (n' : Nat) (σ' : CS), n ≤ n' → LI L xs h' n' σ' (N + 12) → SW SR0 ML_law d (bc - 380) (bs - 4500) 1944 [(4, .int (nI i)), (3, .ref 158), (2, .ref 135), (1, .ref 100), (0, .ref 0)] [] h' n' Post) : SW SR0 ML_law d bc bs 1357 [(4, .int (nI i)), (3, .ref 158), (2, .ref 135), (1, .ref 100), (0, .ref 0)] [] h n Post := by
  obtain ⟨hR, ⟨th, hQ⟩, hT, hV, ⟨w, s, hO⟩, hs, hn⟩ := hI
  refine sw_aload_n (pc' := 1358) rfl dL_law_1357 rfl ?_
  refine sw_aload_n (pc' := 1359) rfl dL_law_1358 rfl ?_
  refine sw_iload (pc' := 1361) rfl dL_law_1359 rfl ?_
  refine sw_iconst (pc' := 1362) (v := 1) rfl dL_law_1361 (by decide +kernel) ?_
  refine sw_iadd (pc' := 1363) rfl dL_law_1362 ?_
  rw [show (nI i) + 1 = nI (i + 1) from nI_add _ _]
  refine sw_iald (j := i + 1) (pc' := 1364) rfl dL_law_1363 hs rfl (by omega) (by omega) ?_
  refine sw_aload_n (pc' := 1365) rfl dL_law_1364 rfl ?_
  refine sw_S (M' := ML_list) (d' := d - 1) (bc' := 60) (bs' := 400) (as := [_, _, _]) dL_law_1365 w_1007 ok_L_list (L_list hR hT hV hN hO hn (by omega) (Nat.le_refl _) (Nat.le_refl _)) (by omega) (Nat.le_of_ble_eq_true rfl) (by omega) (by omega) (fun E h' n' _ z => lpo_x z) (lpo_k (fun p pn pw ps pk pR pO pv pF => ?_))
  refine sw_istore (pc' := 1370) (lv' := [(5, _), (4, _), (3, _), (2, _), (1, _), (0, _)]) rfl dL_law_1368 (by decide +kernel) rfl ?_
  refine sw_aload_n (pc' := 1371) rfl dL_law_1370 rfl ?_
  refine sw_aload_n (pc' := 1372) rfl dL_law_1371 rfl ?_
  refine sw_iload (pc' := 1374) rfl dL_law_1372 rfl ?_
  refine sw_iconst (pc' := 1375) (v := 1) rfl dL_law_1374 (by decide +kernel) ?_
  refine sw_iadd (pc' := 1376) rfl dL_law_1375 ?_
  rw [show (nI i) + 1 = nI (i + 1) from nI_add _ _]
  refine sw_iald (j := i + 1) (pc' := 1377) rfl dL_law_1376 ((pF 0 (by omega) (by omega) (by omega)).trans hs) rfl (by omega) (by omega) ?_
  have hQ2 := hQ.fr (fun i a b => pF i (by omega) (by omega) (by omega))
  obtain ⟨ρ, τ, hM, hA⟩ := id hQ2
  have pT := hT.fr (fun i hi => pF i (by omega) (by omega) (by omega))
  refine sw_V (M' := MX5_list) (d' := d - 1) (bc' := 200) (bs' := 2800) (ci := 6) (as := [_]) dL_law_1377 w_1404 ok_X5_list (q_list hQ2 (hV.iv hN) (by omega) (by omega) (Nat.le_refl _) (Nat.le_refl _) pT) hM.ob rfl (by omega) (Nat.le_of_ble_eq_true rfl) (by omega) (by omega) (fun E h' n' _ z => ptc_x z) (ptc_k (fun u un ux uP => ?_))
  obtain ⟨uk, -, uR, uF⟩ := uP
  refine sw_astore (pc' := 1382) (lv' := [(6, _), (5, _), (4, _), (3, _), (2, _), (1, _), (0, _)]) rfl dL_law_1380 (by decide +kernel) rfl ?_
  refine sw_goto (tgt := 1944) dL_law_1382 (by decide +kernel) ?_
  have J : LI L xs u un (opText σ (xs (i + 1))).2 (N + 12) := ⟨pR.frT (fun i hi => uF i (by omega) (by omega)), ⟨_, uR⟩, hT.fr (fun i hi => (uF i (by omega) (by omega)).trans (pF i (by omega) (by omega) (by omega))), iv_text hV, ⟨_, _, (uF 158 (by omega) (by omega)).trans pO⟩, (uF 0 (by omega) (by omega)).trans ((pF 0 (by omega) (by omega) (by omega)).trans hs), by omega⟩
  exact SW.pick [2, 3, 4, 5, 6] rfl ((K u un _ (by omega) J).bud (by omega) (by omega))
theorem lc_28 {L : Nat} {xs : Nat → Int32} {h : AH} {n i N d bc bs : Nat} {σ : CS} {Post : ARes → AH → Nat → Prop} (hI : LI L xs h n σ N) (hN : N < 2 ^ 31) (hL : L ≤ 3072) (hi : i + 6 ≤ L) (hd : 20 ≤ d) (h1 : 380 ≤ bc) (h2 : 4500 ≤ bs) (K : ∀ (h' : AH) (n' : Nat) (σ' : CS), n ≤ n' → LI L xs h' n' σ' (N + 12) → SW SR0 ML_law d (bc - 380) (bs - 4500) 1944 [(4, .int (nI i)), (3, .ref 158), (2, .ref 135), (1, .ref 100), (0, .ref 0)] [] h' n' Post) : SW SR0 ML_law d bc bs 1385 [(4, .int (nI i)), (3, .ref 158), (2, .ref 135), (1, .ref 100), (0, .ref 0)] [] h n Post := by
  obtain ⟨hR, ⟨th, hQ⟩, hT, hV, ⟨w, s, hO⟩, hs, hn⟩ := hI
  refine sw_aload_n (pc' := 1386) rfl dL_law_1385 rfl ?_
  refine sw_aload_n (pc' := 1387) rfl dL_law_1386 rfl ?_
  refine sw_iload (pc' := 1389) rfl dL_law_1387 rfl ?_
  refine sw_iconst (pc' := 1390) (v := 1) rfl dL_law_1389 (by decide +kernel) ?_
  refine sw_iadd (pc' := 1391) rfl dL_law_1390 ?_
  rw [show (nI i) + 1 = nI (i + 1) from nI_add _ _]
  refine sw_iald (j := i + 1) (pc' := 1392) rfl dL_law_1391 hs rfl (by omega) (by omega) ?_
  refine sw_aload_n (pc' := 1393) rfl dL_law_1392 rfl ?_
  refine sw_S (M' := ML_size) (d' := d - 1) (bc' := 60) (bs' := 400) (as := [_, _, _]) dL_law_1393 w_1014 ok_L_size (L_size hR hT hV hN hO hn (by omega) (Nat.le_refl _) (Nat.le_refl _)) (by omega) (Nat.le_of_ble_eq_true rfl) (by omega) (by omega) (fun E h' n' _ z => lpo_x z) (lpo_k (fun p pn pw ps pk pR pO pv pF => ?_))
  refine sw_istore (pc' := 1398) (lv' := [(5, _), (4, _), (3, _), (2, _), (1, _), (0, _)]) rfl dL_law_1396 (by decide +kernel) rfl ?_
  refine sw_aload_n (pc' := 1399) rfl dL_law_1398 rfl ?_
  refine sw_aload_n (pc' := 1400) rfl dL_law_1399 rfl ?_
  refine sw_iload (pc' := 1402) rfl dL_law_1400 rfl ?_
  refine sw_iconst (pc' := 1403) (v := 1) rfl dL_law_1402 (by decide +kernel) ?_
  refine sw_iadd (pc' := 1404) rfl dL_law_1403 ?_
  rw [show (nI i) + 1 = nI (i + 1) from nI_add _ _]
  refine sw_iald (j := i + 1) (pc' := 1405) rfl dL_law_1404 ((pF 0 (by omega) (by omega) (by omega)).trans hs) rfl (by omega) (by omega) ?_
  have hQ2 := hQ.fr (fun i a b => pF i (by omega) (by omega) (by omega))
  obtain ⟨ρ, τ, hM, hA⟩ := id hQ2
  refine sw_V (M' := MX5_size) (d' := d - 1) (bc' := 1) (bs' := 12) (ci := 6) (as := [_]) dL_law_1405 w_1409 ok_X5_size (q_size hQ2 (hV.iv hN) (by omega) (by omega) (Nat.le_refl _) (Nat.le_refl _)) hM.ob rfl (by omega) (Nat.le_of_ble_eq_true rfl) (by omega) (by omega) (fun E h' n' _ z => pmc_x z) (pmc_k ox_size (fun u un ub uk uv uR uF => ?_))
  refine sw_istore (pc' := 1410) (lv' := [(6, _), (5, _), (4, _), (3, _), (2, _), (1, _), (0, _)]) rfl dL_law_1408 (by decide +kernel) rfl ?_
  refine sw_goto (tgt := 1944) dL_law_1410 (by decide +kernel) ?_
  have J : LI L xs u un (opSize σ (xs (i + 1))).2 (N + 12) := ⟨pR.frT (fun i hi => uF i (by omega) (by omega)), ⟨_, uR⟩, hT.fr (fun i hi => (uF i (by omega) (by omega)).trans (pF i (by omega) (by omega) (by omega))), iv_size hV, ⟨_, _, (uF 158 (by omega) (by omega)).trans pO⟩, (uF 0 (by omega) (by omega)).trans ((pF 0 (by omega) (by omega) (by omega)).trans hs), by omega⟩
  exact SW.pick [2, 3, 4, 5, 6] rfl ((K u un _ (by omega) J).bud (by omega) (by omega))
theorem lc_29 {L : Nat} {xs : Nat → Int32} {h : AH} {n i N d bc bs : Nat} {σ : CS} {Post : ARes → AH → Nat → Prop} (hI : LI L xs h n σ N) (hN : N < 2 ^ 31) (hL : L ≤ 3072) (hi : i + 6 ≤ L) (hd : 20 ≤ d) (h1 : 380 ≤ bc) (h2 : 4500 ≤ bs) (K : ∀ (h' : AH) (n' : Nat) (σ' : CS), n ≤ n' → LI L xs h' n' σ' (N + 12) → SW SR0 ML_law d (bc - 380) (bs - 4500) 1944 [(4, .int (nI i)), (3, .ref 158), (2, .ref 135), (1, .ref 100), (0, .ref 0)] [] h' n' Post) : SW SR0 ML_law d bc bs 1413 [(4, .int (nI i)), (3, .ref 158), (2, .ref 135), (1, .ref 100), (0, .ref 0)] [] h n Post := by
  obtain ⟨hR, ⟨th, hQ⟩, hT, hV, ⟨w, s, hO⟩, hs, hn⟩ := hI
  refine sw_aload_n (pc' := 1414) rfl dL_law_1413 rfl ?_
  refine sw_aload_n (pc' := 1415) rfl dL_law_1414 rfl ?_
  refine sw_iload (pc' := 1417) rfl dL_law_1415 rfl ?_
  refine sw_iconst (pc' := 1418) (v := 1) rfl dL_law_1417 (by decide +kernel) ?_
  refine sw_iadd (pc' := 1419) rfl dL_law_1418 ?_
  rw [show (nI i) + 1 = nI (i + 1) from nI_add _ _]
  refine sw_iald (j := i + 1) (pc' := 1420) rfl dL_law_1419 hs rfl (by omega) (by omega) ?_
  refine sw_aload_n (pc' := 1421) rfl dL_law_1420 rfl ?_
  refine sw_S (M' := ML_isEmpty) (d' := d - 1) (bc' := 60) (bs' := 400) (as := [_, _, _]) dL_law_1421 w_1021 ok_L_isEmpty (L_isEmpty hR hT hV hN hO hn (by omega) (Nat.le_refl _) (Nat.le_refl _)) (by omega) (Nat.le_of_ble_eq_true rfl) (by omega) (by omega) (fun E h' n' _ z => lpo_x z) (lpo_k (fun p pn pw ps pk pR pO pv pF => ?_))
  refine sw_istore (pc' := 1426) (lv' := [(5, _), (4, _), (3, _), (2, _), (1, _), (0, _)]) rfl dL_law_1424 (by decide +kernel) rfl ?_
  refine sw_aload_n (pc' := 1427) rfl dL_law_1426 rfl ?_
  refine sw_aload_n (pc' := 1428) rfl dL_law_1427 rfl ?_
  refine sw_iload (pc' := 1430) rfl dL_law_1428 rfl ?_
  refine sw_iconst (pc' := 1431) (v := 1) rfl dL_law_1430 (by decide +kernel) ?_
  refine sw_iadd (pc' := 1432) rfl dL_law_1431 ?_
  rw [show (nI i) + 1 = nI (i + 1) from nI_add _ _]
  refine sw_iald (j := i + 1) (pc' := 1433) rfl dL_law_1432 ((pF 0 (by omega) (by omega) (by omega)).trans hs) rfl (by omega) (by omega) ?_
  have hQ2 := hQ.fr (fun i a b => pF i (by omega) (by omega) (by omega))
  obtain ⟨ρ, τ, hM, hA⟩ := id hQ2
  refine sw_V (M' := MX5_isEmpty) (d' := d - 1) (bc' := 1) (bs' := 12) (ci := 6) (as := [_]) dL_law_1433 w_1413 ok_X5_isEmpty (q_isEmpty hQ2 (hV.iv hN) (by omega) (by omega) (Nat.le_refl _) (Nat.le_refl _)) hM.ob rfl (by omega) (Nat.le_of_ble_eq_true rfl) (by omega) (by omega) (fun E h' n' _ z => pmc_x z) (pmc_k ox_isEmpty (fun u un ub uk uv uR uF => ?_))
  refine sw_istore (pc' := 1438) (lv' := [(6, _), (5, _), (4, _), (3, _), (2, _), (1, _), (0, _)]) rfl dL_law_1436 (by decide +kernel) rfl ?_
  refine sw_goto (tgt := 1944) dL_law_1438 (by decide +kernel) ?_
  have J : LI L xs u un (opIsEmpty σ (xs (i + 1))).2 (N + 12) := ⟨pR.frT (fun i hi => uF i (by omega) (by omega)), ⟨_, uR⟩, hT.fr (fun i hi => (uF i (by omega) (by omega)).trans (pF i (by omega) (by omega) (by omega))), iv_isEmpty hV, ⟨_, _, (uF 158 (by omega) (by omega)).trans pO⟩, (uF 0 (by omega) (by omega)).trans ((pF 0 (by omega) (by omega) (by omega)).trans hs), by omega⟩
  exact SW.pick [2, 3, 4, 5, 6] rfl ((K u un _ (by omega) J).bud (by omega) (by omega))
theorem lc_30 {L : Nat} {xs : Nat → Int32} {h : AH} {n i N d bc bs : Nat} {σ : CS} {Post : ARes → AH → Nat → Prop} (hI : LI L xs h n σ N) (hN : N < 2 ^ 31) (hL : L ≤ 3072) (hi : i + 6 ≤ L) (hd : 20 ≤ d) (h1 : 380 ≤ bc) (h2 : 4500 ≤ bs) (K : ∀ (h' : AH) (n' : Nat) (σ' : CS), n ≤ n' → LI L xs h' n' σ' (N + 12) → SW SR0 ML_law d (bc - 380) (bs - 4500) 1944 [(4, .int (nI i)), (3, .ref 158), (2, .ref 135), (1, .ref 100), (0, .ref 0)] [] h' n' Post) : SW SR0 ML_law d bc bs 1441 [(4, .int (nI i)), (3, .ref 158), (2, .ref 135), (1, .ref 100), (0, .ref 0)] [] h n Post := by
  obtain ⟨hR, ⟨th, hQ⟩, hT, hV, ⟨w, s, hO⟩, hs, hn⟩ := hI
  refine sw_aload_n (pc' := 1442) rfl dL_law_1441 rfl ?_
  refine sw_aload_n (pc' := 1443) rfl dL_law_1442 rfl ?_
  refine sw_iload (pc' := 1445) rfl dL_law_1443 rfl ?_
  refine sw_iconst (pc' := 1446) (v := 1) rfl dL_law_1445 (by decide +kernel) ?_
  refine sw_iadd (pc' := 1447) rfl dL_law_1446 ?_
  rw [show (nI i) + 1 = nI (i + 1) from nI_add _ _]
  refine sw_iald (j := i + 1) (pc' := 1448) rfl dL_law_1447 hs rfl (by omega) (by omega) ?_
  refine sw_aload_n (pc' := 1449) rfl dL_law_1448 rfl ?_
  refine sw_iload (pc' := 1451) rfl dL_law_1449 rfl ?_
  refine sw_iconst (pc' := 1452) (v := 2) rfl dL_law_1451 (by decide +kernel) ?_
  refine sw_iadd (pc' := 1453) rfl dL_law_1452 ?_
  rw [show (nI i) + 2 = nI (i + 2) from nI_add _ _]
  refine sw_iald (j := i + 2) (pc' := 1454) rfl dL_law_1453 hs rfl (by omega) (by omega) ?_
  refine sw_aload_n (pc' := 1455) rfl dL_law_1454 rfl ?_
  refine sw_S (M' := ML_has) (d' := d - 1) (bc' := 60) (bs' := 400) (as := [_, _, _, _]) dL_law_1455 w_1028 ok_L_has (L_has hR hT hV hN hO hn (by omega) (Nat.le_refl _) (Nat.le_refl _)) (by omega) (Nat.le_of_ble_eq_true rfl) (by omega) (by omega) (fun E h' n' _ z => lpo_x z) (lpo_k (fun p pn pw ps pk pR pO pv pF => ?_))
  refine sw_istore (pc' := 1460) (lv' := [(5, _), (4, _), (3, _), (2, _), (1, _), (0, _)]) rfl dL_law_1458 (by decide +kernel) rfl ?_
  refine sw_aload_n (pc' := 1461) rfl dL_law_1460 rfl ?_
  refine sw_aload_n (pc' := 1462) rfl dL_law_1461 rfl ?_
  refine sw_iload (pc' := 1464) rfl dL_law_1462 rfl ?_
  refine sw_iconst (pc' := 1465) (v := 1) rfl dL_law_1464 (by decide +kernel) ?_
  refine sw_iadd (pc' := 1466) rfl dL_law_1465 ?_
  rw [show (nI i) + 1 = nI (i + 1) from nI_add _ _]
  refine sw_iald (j := i + 1) (pc' := 1467) rfl dL_law_1466 ((pF 0 (by omega) (by omega) (by omega)).trans hs) rfl (by omega) (by omega) ?_
  refine sw_aload_n (pc' := 1468) rfl dL_law_1467 rfl ?_
  refine sw_iload (pc' := 1470) rfl dL_law_1468 rfl ?_
  refine sw_iconst (pc' := 1471) (v := 2) rfl dL_law_1470 (by decide +kernel) ?_
  refine sw_iadd (pc' := 1472) rfl dL_law_1471 ?_
  rw [show (nI i) + 2 = nI (i + 2) from nI_add _ _]
  refine sw_iald (j := i + 2) (pc' := 1473) rfl dL_law_1472 ((pF 0 (by omega) (by omega) (by omega)).trans hs) rfl (by omega) (by omega) ?_
  have hQ2 := hQ.fr (fun i a b => pF i (by omega) (by omega) (by omega))
  obtain ⟨ρ, τ, hM, hA⟩ := id hQ2
  refine sw_V (M' := MX5_has) (d' := d - 1) (bc' := 1) (bs' := 12) (ci := 6) (as := [_, _]) dL_law_1473 w_1417 ok_X5_has (q_has hQ2 (hV.iv hN) (by omega) (by omega) (Nat.le_refl _) (Nat.le_refl _)) hM.ob rfl (by omega) (Nat.le_of_ble_eq_true rfl) (by omega) (by omega) (fun E h' n' _ z => pmc_x z) (pmc_k ox_has (fun u un ub uk uv uR uF => ?_))
  refine sw_istore (pc' := 1478) (lv' := [(6, _), (5, _), (4, _), (3, _), (2, _), (1, _), (0, _)]) rfl dL_law_1476 (by decide +kernel) rfl ?_
  refine sw_goto (tgt := 1944) dL_law_1478 (by decide +kernel) ?_
  have J : LI L xs u un (opHas σ (xs (i + 1)) (xs (i + 2))).2 (N + 12) := ⟨pR.frT (fun i hi => uF i (by omega) (by omega)), ⟨_, uR⟩, hT.fr (fun i hi => (uF i (by omega) (by omega)).trans (pF i (by omega) (by omega) (by omega))), iv_has hV, ⟨_, _, (uF 158 (by omega) (by omega)).trans pO⟩, (uF 0 (by omega) (by omega)).trans ((pF 0 (by omega) (by omega) (by omega)).trans hs), by omega⟩
  exact SW.pick [2, 3, 4, 5, 6] rfl ((K u un _ (by omega) J).bud (by omega) (by omega))
theorem lc_31 {L : Nat} {xs : Nat → Int32} {h : AH} {n i N d bc bs : Nat} {σ : CS} {Post : ARes → AH → Nat → Prop} (hI : LI L xs h n σ N) (hN : N < 2 ^ 31) (hL : L ≤ 3072) (hi : i + 6 ≤ L) (hd : 20 ≤ d) (h1 : 380 ≤ bc) (h2 : 4500 ≤ bs) (K : ∀ (h' : AH) (n' : Nat) (σ' : CS), n ≤ n' → LI L xs h' n' σ' (N + 12) → SW SR0 ML_law d (bc - 380) (bs - 4500) 1944 [(4, .int (nI i)), (3, .ref 158), (2, .ref 135), (1, .ref 100), (0, .ref 0)] [] h' n' Post) : SW SR0 ML_law d bc bs 1481 [(4, .int (nI i)), (3, .ref 158), (2, .ref 135), (1, .ref 100), (0, .ref 0)] [] h n Post := by
  obtain ⟨hR, ⟨th, hQ⟩, hT, hV, ⟨w, s, hO⟩, hs, hn⟩ := hI
  refine sw_aload_n (pc' := 1482) rfl dL_law_1481 rfl ?_
  refine sw_aload_n (pc' := 1483) rfl dL_law_1482 rfl ?_
  refine sw_iload (pc' := 1485) rfl dL_law_1483 rfl ?_
  refine sw_iconst (pc' := 1486) (v := 1) rfl dL_law_1485 (by decide +kernel) ?_
  refine sw_iadd (pc' := 1487) rfl dL_law_1486 ?_
  rw [show (nI i) + 1 = nI (i + 1) from nI_add _ _]
  refine sw_iald (j := i + 1) (pc' := 1488) rfl dL_law_1487 hs rfl (by omega) (by omega) ?_
  refine sw_aload_n (pc' := 1489) rfl dL_law_1488 rfl ?_
  refine sw_iload (pc' := 1491) rfl dL_law_1489 rfl ?_
  refine sw_iconst (pc' := 1492) (v := 2) rfl dL_law_1491 (by decide +kernel) ?_
  refine sw_iadd (pc' := 1493) rfl dL_law_1492 ?_
  rw [show (nI i) + 2 = nI (i + 2) from nI_add _ _]
  refine sw_iald (j := i + 2) (pc' := 1494) rfl dL_law_1493 hs rfl (by omega) (by omega) ?_
  refine sw_aload_n (pc' := 1495) rfl dL_law_1494 rfl ?_
  refine sw_S (M' := ML_often) (d' := d - 1) (bc' := 60) (bs' := 400) (as := [_, _, _, _]) dL_law_1495 w_1035 ok_L_often (L_often hR hT hV hN hO hn (by omega) (Nat.le_refl _) (Nat.le_refl _)) (by omega) (Nat.le_of_ble_eq_true rfl) (by omega) (by omega) (fun E h' n' _ z => lpo_x z) (lpo_k (fun p pn pw ps pk pR pO pv pF => ?_))
  refine sw_istore (pc' := 1500) (lv' := [(5, _), (4, _), (3, _), (2, _), (1, _), (0, _)]) rfl dL_law_1498 (by decide +kernel) rfl ?_
  refine sw_aload_n (pc' := 1501) rfl dL_law_1500 rfl ?_
  refine sw_aload_n (pc' := 1502) rfl dL_law_1501 rfl ?_
  refine sw_iload (pc' := 1504) rfl dL_law_1502 rfl ?_
  refine sw_iconst (pc' := 1505) (v := 1) rfl dL_law_1504 (by decide +kernel) ?_
  refine sw_iadd (pc' := 1506) rfl dL_law_1505 ?_
  rw [show (nI i) + 1 = nI (i + 1) from nI_add _ _]
  refine sw_iald (j := i + 1) (pc' := 1507) rfl dL_law_1506 ((pF 0 (by omega) (by omega) (by omega)).trans hs) rfl (by omega) (by omega) ?_
  refine sw_aload_n (pc' := 1508) rfl dL_law_1507 rfl ?_
  refine sw_iload (pc' := 1510) rfl dL_law_1508 rfl ?_
  refine sw_iconst (pc' := 1511) (v := 2) rfl dL_law_1510 (by decide +kernel) ?_
  refine sw_iadd (pc' := 1512) rfl dL_law_1511 ?_
  rw [show (nI i) + 2 = nI (i + 2) from nI_add _ _]
  refine sw_iald (j := i + 2) (pc' := 1513) rfl dL_law_1512 ((pF 0 (by omega) (by omega) (by omega)).trans hs) rfl (by omega) (by omega) ?_
  have hQ2 := hQ.fr (fun i a b => pF i (by omega) (by omega) (by omega))
  obtain ⟨ρ, τ, hM, hA⟩ := id hQ2
  refine sw_V (M' := MX5_often) (d' := d - 1) (bc' := 1) (bs' := 12) (ci := 6) (as := [_, _]) dL_law_1513 w_1421 ok_X5_often (q_often hQ2 (hV.iv hN) (by omega) (by omega) (Nat.le_refl _) (Nat.le_refl _)) hM.ob rfl (by omega) (Nat.le_of_ble_eq_true rfl) (by omega) (by omega) (fun E h' n' _ z => pmc_x z) (pmc_k ox_often (fun u un ub uk uv uR uF => ?_))
  refine sw_istore (pc' := 1518) (lv' := [(6, _), (5, _), (4, _), (3, _), (2, _), (1, _), (0, _)]) rfl dL_law_1516 (by decide +kernel) rfl ?_
  refine sw_goto (tgt := 1944) dL_law_1518 (by decide +kernel) ?_
  have J : LI L xs u un (opOften σ (xs (i + 1)) (xs (i + 2))).2 (N + 12) := ⟨pR.frT (fun i hi => uF i (by omega) (by omega)), ⟨_, uR⟩, hT.fr (fun i hi => (uF i (by omega) (by omega)).trans (pF i (by omega) (by omega) (by omega))), iv_often hV, ⟨_, _, (uF 158 (by omega) (by omega)).trans pO⟩, (uF 0 (by omega) (by omega)).trans ((pF 0 (by omega) (by omega) (by omega)).trans hs), by omega⟩
  exact SW.pick [2, 3, 4, 5, 6] rfl ((K u un _ (by omega) J).bud (by omega) (by omega))
theorem lc_32 {L : Nat} {xs : Nat → Int32} {h : AH} {n i N d bc bs : Nat} {σ : CS} {Post : ARes → AH → Nat → Prop} (hI : LI L xs h n σ N) (hN : N < 2 ^ 31) (hL : L ≤ 3072) (hi : i + 6 ≤ L) (hd : 20 ≤ d) (h1 : 380 ≤ bc) (h2 : 4500 ≤ bs) (K : ∀ (h' : AH) (n' : Nat) (σ' : CS), n ≤ n' → LI L xs h' n' σ' (N + 12) → SW SR0 ML_law d (bc - 380) (bs - 4500) 1944 [(4, .int (nI i)), (3, .ref 158), (2, .ref 135), (1, .ref 100), (0, .ref 0)] [] h' n' Post) : SW SR0 ML_law d bc bs 1521 [(4, .int (nI i)), (3, .ref 158), (2, .ref 135), (1, .ref 100), (0, .ref 0)] [] h n Post := by
  obtain ⟨hR, ⟨th, hQ⟩, hT, hV, ⟨w, s, hO⟩, hs, hn⟩ := hI
  refine sw_aload_n (pc' := 1522) rfl dL_law_1521 rfl ?_
  refine sw_aload_n (pc' := 1523) rfl dL_law_1522 rfl ?_
  refine sw_iload (pc' := 1525) rfl dL_law_1523 rfl ?_
  refine sw_iconst (pc' := 1526) (v := 1) rfl dL_law_1525 (by decide +kernel) ?_
  refine sw_iadd (pc' := 1527) rfl dL_law_1526 ?_
  rw [show (nI i) + 1 = nI (i + 1) from nI_add _ _]
  refine sw_iald (j := i + 1) (pc' := 1528) rfl dL_law_1527 hs rfl (by omega) (by omega) ?_
  refine sw_aload_n (pc' := 1529) rfl dL_law_1528 rfl ?_
  refine sw_iload (pc' := 1531) rfl dL_law_1529 rfl ?_
  refine sw_iconst (pc' := 1532) (v := 2) rfl dL_law_1531 (by decide +kernel) ?_
  refine sw_iadd (pc' := 1533) rfl dL_law_1532 ?_
  rw [show (nI i) + 2 = nI (i + 2) from nI_add _ _]
  refine sw_iald (j := i + 2) (pc' := 1534) rfl dL_law_1533 hs rfl (by omega) (by omega) ?_
  refine sw_aload_n (pc' := 1535) rfl dL_law_1534 rfl ?_
  refine sw_iload (pc' := 1537) rfl dL_law_1535 rfl ?_
  refine sw_iconst (pc' := 1538) (v := 3) rfl dL_law_1537 (by decide +kernel) ?_
  refine sw_iadd (pc' := 1539) rfl dL_law_1538 ?_
  rw [show (nI i) + 3 = nI (i + 3) from nI_add _ _]
  refine sw_iald (j := i + 3) (pc' := 1540) rfl dL_law_1539 hs rfl (by omega) (by omega) ?_
  refine sw_if_eq (pc' := 1543) (tgt := 1547) rfl dL_law_1540 (by decide +kernel) (fun c1540 => ?_) (fun c1540 => ?_)
  · refine sw_iconst (pc' := 1548) (v := 0) rfl dL_law_1547 (by decide +kernel) ?_
    refine sw_aload_n (pc' := 1549) rfl dL_law_1548 rfl ?_
    refine sw_S (M' := ML_placeOf) (d' := d - 1) (bc' := 60) (bs' := 400) (as := [_, _, _, _, _]) dL_law_1549 w_1042 ok_L_placeOf (L_placeOf hR hT hV hN hO hn (by omega) (Nat.le_refl _) (Nat.le_refl _)) (by omega) (Nat.le_of_ble_eq_true rfl) (by omega) (by omega) (fun E h' n' _ z => lpo_x z) (lpo_k (fun p pn pw ps pk pR pO pv pF => ?_))
    refine sw_istore (pc' := 1554) (lv' := [(5, _), (4, _), (3, _), (2, _), (1, _), (0, _)]) rfl dL_law_1552 (by decide +kernel) rfl ?_
    refine sw_aload_n (pc' := 1555) rfl dL_law_1554 rfl ?_
    refine sw_aload_n (pc' := 1556) rfl dL_law_1555 rfl ?_
    refine sw_iload (pc' := 1558) rfl dL_law_1556 rfl ?_
    refine sw_iconst (pc' := 1559) (v := 1) rfl dL_law_1558 (by decide +kernel) ?_
    refine sw_iadd (pc' := 1560) rfl dL_law_1559 ?_
    rw [show (nI i) + 1 = nI (i + 1) from nI_add _ _]
    refine sw_iald (j := i + 1) (pc' := 1561) rfl dL_law_1560 ((pF 0 (by omega) (by omega) (by omega)).trans hs) rfl (by omega) (by omega) ?_
    refine sw_aload_n (pc' := 1562) rfl dL_law_1561 rfl ?_
    refine sw_iload (pc' := 1564) rfl dL_law_1562 rfl ?_
    refine sw_iconst (pc' := 1565) (v := 2) rfl dL_law_1564 (by decide +kernel) ?_
    refine sw_iadd (pc' := 1566) rfl dL_law_1565 ?_
    rw [show (nI i) + 2 = nI (i + 2) from nI_add _ _]
    refine sw_iald (j := i + 2) (pc' := 1567) rfl dL_law_1566 ((pF 0 (by omega) (by omega) (by omega)).trans hs) rfl (by omega) (by omega) ?_
    refine sw_aload_n (pc' := 1568) rfl dL_law_1567 rfl ?_
    refine sw_iload (pc' := 1570) rfl dL_law_1568 rfl ?_
    refine sw_iconst (pc' := 1571) (v := 3) rfl dL_law_1570 (by decide +kernel) ?_
    refine sw_iadd (pc' := 1572) rfl dL_law_1571 ?_
    rw [show (nI i) + 3 = nI (i + 3) from nI_add _ _]
    refine sw_iald (j := i + 3) (pc' := 1573) rfl dL_law_1572 ((pF 0 (by omega) (by omega) (by omega)).trans hs) rfl (by omega) (by omega) ?_
    refine sw_if_eq (pc' := 1576) (tgt := 1580) rfl dL_law_1573 (by decide +kernel) (fun c1573 => ?_) (fun c1573 => ?_)
    · refine sw_iconst (pc' := 1581) (v := 0) rfl dL_law_1580 (by decide +kernel) ?_
      have hQ2 := hQ.fr (fun i a b => pF i (by omega) (by omega) (by omega))
      obtain ⟨ρ, τ, hM, hA⟩ := id hQ2
      refine sw_V (M' := MX5_placeOf) (d' := d - 1) (bc' := 1) (bs' := 12) (ci := 6) (as := [_, _, _]) dL_law_1581 w_1425 ok_X5_placeOf (q_placeOf hQ2 (hV.iv hN) (by omega) (by omega) (Nat.le_refl _) (Nat.le_refl _)) hM.ob rfl (by omega) (Nat.le_of_ble_eq_true rfl) (by omega) (by omega) (fun E h' n' _ z => pmc_x z) (pmc_k ox_placeOf (fun u un ub uk uv uR uF => ?_))
      refine sw_istore (pc' := 1586) (lv' := [(6, _), (5, _), (4, _), (3, _), (2, _), (1, _), (0, _)]) rfl dL_law_1584 (by decide +kernel) rfl ?_
      refine sw_goto (tgt := 1944) dL_law_1586 (by decide +kernel) ?_
      have J : LI L xs u un (opPlaceOf σ (xs (i + 1)) (xs (i + 2)) 0).2 (N + 12) := ⟨pR.frT (fun i hi => uF i (by omega) (by omega)), ⟨_, uR⟩, hT.fr (fun i hi => (uF i (by omega) (by omega)).trans (pF i (by omega) (by omega) (by omega))), iv_placeOf hV, ⟨_, _, (uF 158 (by omega) (by omega)).trans pO⟩, (uF 0 (by omega) (by omega)).trans ((pF 0 (by omega) (by omega) (by omega)).trans hs), by omega⟩
      exact SW.pick [2, 3, 4, 5, 6] rfl ((K u un _ (by omega) J).bud (by omega) (by omega))
    · exact absurd c1540 c1573
  · refine sw_iconst (pc' := 1544) (v := 1) rfl dL_law_1543 (by decide +kernel) ?_
    refine sw_goto (tgt := 1548) dL_law_1544 (by decide +kernel) ?_
    refine sw_aload_n (pc' := 1549) rfl dL_law_1548 rfl ?_
    refine sw_S (M' := ML_placeOf) (d' := d - 1) (bc' := 60) (bs' := 400) (as := [_, _, _, _, _]) dL_law_1549 w_1042 ok_L_placeOf (L_placeOf hR hT hV hN hO hn (by omega) (Nat.le_refl _) (Nat.le_refl _)) (by omega) (Nat.le_of_ble_eq_true rfl) (by omega) (by omega) (fun E h' n' _ z => lpo_x z) (lpo_k (fun p pn pw ps pk pR pO pv pF => ?_))
    refine sw_istore (pc' := 1554) (lv' := [(5, _), (4, _), (3, _), (2, _), (1, _), (0, _)]) rfl dL_law_1552 (by decide +kernel) rfl ?_
    refine sw_aload_n (pc' := 1555) rfl dL_law_1554 rfl ?_
    refine sw_aload_n (pc' := 1556) rfl dL_law_1555 rfl ?_
    refine sw_iload (pc' := 1558) rfl dL_law_1556 rfl ?_
    refine sw_iconst (pc' := 1559) (v := 1) rfl dL_law_1558 (by decide +kernel) ?_
    refine sw_iadd (pc' := 1560) rfl dL_law_1559 ?_
    rw [show (nI i) + 1 = nI (i + 1) from nI_add _ _]
    refine sw_iald (j := i + 1) (pc' := 1561) rfl dL_law_1560 ((pF 0 (by omega) (by omega) (by omega)).trans hs) rfl (by omega) (by omega) ?_
    refine sw_aload_n (pc' := 1562) rfl dL_law_1561 rfl ?_
    refine sw_iload (pc' := 1564) rfl dL_law_1562 rfl ?_
    refine sw_iconst (pc' := 1565) (v := 2) rfl dL_law_1564 (by decide +kernel) ?_
    refine sw_iadd (pc' := 1566) rfl dL_law_1565 ?_
    rw [show (nI i) + 2 = nI (i + 2) from nI_add _ _]
    refine sw_iald (j := i + 2) (pc' := 1567) rfl dL_law_1566 ((pF 0 (by omega) (by omega) (by omega)).trans hs) rfl (by omega) (by omega) ?_
    refine sw_aload_n (pc' := 1568) rfl dL_law_1567 rfl ?_
    refine sw_iload (pc' := 1570) rfl dL_law_1568 rfl ?_
    refine sw_iconst (pc' := 1571) (v := 3) rfl dL_law_1570 (by decide +kernel) ?_
    refine sw_iadd (pc' := 1572) rfl dL_law_1571 ?_
    rw [show (nI i) + 3 = nI (i + 3) from nI_add _ _]
    refine sw_iald (j := i + 3) (pc' := 1573) rfl dL_law_1572 ((pF 0 (by omega) (by omega) (by omega)).trans hs) rfl (by omega) (by omega) ?_
    refine sw_if_eq (pc' := 1576) (tgt := 1580) rfl dL_law_1573 (by decide +kernel) (fun c1573 => ?_) (fun c1573 => ?_)
    · exact absurd c1573 c1540
    · refine sw_iconst (pc' := 1577) (v := 1) rfl dL_law_1576 (by decide +kernel) ?_
      refine sw_goto (tgt := 1581) dL_law_1577 (by decide +kernel) ?_
      have hQ2 := hQ.fr (fun i a b => pF i (by omega) (by omega) (by omega))
      obtain ⟨ρ, τ, hM, hA⟩ := id hQ2
      refine sw_V (M' := MX5_placeOf) (d' := d - 1) (bc' := 1) (bs' := 12) (ci := 6) (as := [_, _, _]) dL_law_1581 w_1425 ok_X5_placeOf (q_placeOf hQ2 (hV.iv hN) (by omega) (by omega) (Nat.le_refl _) (Nat.le_refl _)) hM.ob rfl (by omega) (Nat.le_of_ble_eq_true rfl) (by omega) (by omega) (fun E h' n' _ z => pmc_x z) (pmc_k ox_placeOf (fun u un ub uk uv uR uF => ?_))
      refine sw_istore (pc' := 1586) (lv' := [(6, _), (5, _), (4, _), (3, _), (2, _), (1, _), (0, _)]) rfl dL_law_1584 (by decide +kernel) rfl ?_
      refine sw_goto (tgt := 1944) dL_law_1586 (by decide +kernel) ?_
      have J : LI L xs u un (opPlaceOf σ (xs (i + 1)) (xs (i + 2)) 1).2 (N + 12) := ⟨pR.frT (fun i hi => uF i (by omega) (by omega)), ⟨_, uR⟩, hT.fr (fun i hi => (uF i (by omega) (by omega)).trans (pF i (by omega) (by omega) (by omega))), iv_placeOf hV, ⟨_, _, (uF 158 (by omega) (by omega)).trans pO⟩, (uF 0 (by omega) (by omega)).trans ((pF 0 (by omega) (by omega) (by omega)).trans hs), by omega⟩
      exact SW.pick [2, 3, 4, 5, 6] rfl ((K u un _ (by omega) J).bud (by omega) (by omega))
theorem lc_33 {L : Nat} {xs : Nat → Int32} {h : AH} {n i N d bc bs : Nat} {σ : CS} {Post : ARes → AH → Nat → Prop} (hI : LI L xs h n σ N) (hN : N < 2 ^ 31) (hL : L ≤ 3072) (hi : i + 6 ≤ L) (hd : 20 ≤ d) (h1 : 380 ≤ bc) (h2 : 4500 ≤ bs) (K : ∀ (h' : AH) (n' : Nat) (σ' : CS), n ≤ n' → LI L xs h' n' σ' (N + 12) → SW SR0 ML_law d (bc - 380) (bs - 4500) 1944 [(4, .int (nI i)), (3, .ref 158), (2, .ref 135), (1, .ref 100), (0, .ref 0)] [] h' n' Post) : SW SR0 ML_law d bc bs 1589 [(4, .int (nI i)), (3, .ref 158), (2, .ref 135), (1, .ref 100), (0, .ref 0)] [] h n Post := by
  obtain ⟨hR, ⟨th, hQ⟩, hT, hV, ⟨w, s, hO⟩, hs, hn⟩ := hI
  refine sw_aload_n (pc' := 1590) rfl dL_law_1589 rfl ?_
  refine sw_aload_n (pc' := 1591) rfl dL_law_1590 rfl ?_
  refine sw_iload (pc' := 1593) rfl dL_law_1591 rfl ?_
  refine sw_iconst (pc' := 1594) (v := 1) rfl dL_law_1593 (by decide +kernel) ?_
  refine sw_iadd (pc' := 1595) rfl dL_law_1594 ?_
  rw [show (nI i) + 1 = nI (i + 1) from nI_add _ _]
  refine sw_iald (j := i + 1) (pc' := 1596) rfl dL_law_1595 hs rfl (by omega) (by omega) ?_
  refine sw_aload_n (pc' := 1597) rfl dL_law_1596 rfl ?_
  refine sw_iload (pc' := 1599) rfl dL_law_1597 rfl ?_
  refine sw_iconst (pc' := 1600) (v := 2) rfl dL_law_1599 (by decide +kernel) ?_
  refine sw_iadd (pc' := 1601) rfl dL_law_1600 ?_
  rw [show (nI i) + 2 = nI (i + 2) from nI_add _ _]
  refine sw_iald (j := i + 2) (pc' := 1602) rfl dL_law_1601 hs rfl (by omega) (by omega) ?_
  refine sw_aload_n (pc' := 1603) rfl dL_law_1602 rfl ?_
  refine sw_S (M' := ML_disjoint) (d' := d - 1) (bc' := 60) (bs' := 400) (as := [_, _, _, _]) dL_law_1603 w_1053 ok_L_disjoint (L_disjoint hR hT hV hN hO hn (by omega) (Nat.le_refl _) (Nat.le_refl _)) (by omega) (Nat.le_of_ble_eq_true rfl) (by omega) (by omega) (fun E h' n' _ z => lpo_x z) (lpo_k (fun p pn pw ps pk pR pO pv pF => ?_))
  refine sw_istore (pc' := 1608) (lv' := [(5, _), (4, _), (3, _), (2, _), (1, _), (0, _)]) rfl dL_law_1606 (by decide +kernel) rfl ?_
  refine sw_aload_n (pc' := 1609) rfl dL_law_1608 rfl ?_
  refine sw_aload_n (pc' := 1610) rfl dL_law_1609 rfl ?_
  refine sw_iload (pc' := 1612) rfl dL_law_1610 rfl ?_
  refine sw_iconst (pc' := 1613) (v := 1) rfl dL_law_1612 (by decide +kernel) ?_
  refine sw_iadd (pc' := 1614) rfl dL_law_1613 ?_
  rw [show (nI i) + 1 = nI (i + 1) from nI_add _ _]
  refine sw_iald (j := i + 1) (pc' := 1615) rfl dL_law_1614 ((pF 0 (by omega) (by omega) (by omega)).trans hs) rfl (by omega) (by omega) ?_
  refine sw_aload_n (pc' := 1616) rfl dL_law_1615 rfl ?_
  refine sw_iload (pc' := 1618) rfl dL_law_1616 rfl ?_
  refine sw_iconst (pc' := 1619) (v := 2) rfl dL_law_1618 (by decide +kernel) ?_
  refine sw_iadd (pc' := 1620) rfl dL_law_1619 ?_
  rw [show (nI i) + 2 = nI (i + 2) from nI_add _ _]
  refine sw_iald (j := i + 2) (pc' := 1621) rfl dL_law_1620 ((pF 0 (by omega) (by omega) (by omega)).trans hs) rfl (by omega) (by omega) ?_
  have hQ2 := hQ.fr (fun i a b => pF i (by omega) (by omega) (by omega))
  obtain ⟨ρ, τ, hM, hA⟩ := id hQ2
  refine sw_V (M' := MX5_disjoint) (d' := d - 1) (bc' := 1) (bs' := 12) (ci := 6) (as := [_, _]) dL_law_1621 w_1429 ok_X5_disjoint (q_disjoint hQ2 (hV.iv hN) (by omega) (by omega) (Nat.le_refl _) (Nat.le_refl _)) hM.ob rfl (by omega) (Nat.le_of_ble_eq_true rfl) (by omega) (by omega) (fun E h' n' _ z => pmc_x z) (pmc_k ox_disjoint (fun u un ub uk uv uR uF => ?_))
  refine sw_istore (pc' := 1626) (lv' := [(6, _), (5, _), (4, _), (3, _), (2, _), (1, _), (0, _)]) rfl dL_law_1624 (by decide +kernel) rfl ?_
  refine sw_goto (tgt := 1944) dL_law_1626 (by decide +kernel) ?_
  have J : LI L xs u un (opDisjoint σ (xs (i + 1)) (xs (i + 2))).2 (N + 12) := ⟨pR.frT (fun i hi => uF i (by omega) (by omega)), ⟨_, uR⟩, hT.fr (fun i hi => (uF i (by omega) (by omega)).trans (pF i (by omega) (by omega) (by omega))), iv_disjoint hV, ⟨_, _, (uF 158 (by omega) (by omega)).trans pO⟩, (uF 0 (by omega) (by omega)).trans ((pF 0 (by omega) (by omega) (by omega)).trans hs), by omega⟩
  exact SW.pick [2, 3, 4, 5, 6] rfl ((K u un _ (by omega) J).bud (by omega) (by omega))
theorem lc_34 {L : Nat} {xs : Nat → Int32} {h : AH} {n i N d bc bs : Nat} {σ : CS} {Post : ARes → AH → Nat → Prop} (hI : LI L xs h n σ N) (hN : N < 2 ^ 31) (hL : L ≤ 3072) (hi : i + 6 ≤ L) (hd : 20 ≤ d) (h1 : 380 ≤ bc) (h2 : 4500 ≤ bs) (K : ∀ (h' : AH) (n' : Nat) (σ' : CS), n ≤ n' → LI L xs h' n' σ' (N + 12) → SW SR0 ML_law d (bc - 380) (bs - 4500) 1944 [(4, .int (nI i)), (3, .ref 158), (2, .ref 135), (1, .ref 100), (0, .ref 0)] [] h' n' Post) : SW SR0 ML_law d bc bs 1629 [(4, .int (nI i)), (3, .ref 158), (2, .ref 135), (1, .ref 100), (0, .ref 0)] [] h n Post := by
  obtain ⟨hR, ⟨th, hQ⟩, hT, hV, ⟨w, s, hO⟩, hs, hn⟩ := hI
  refine sw_aload_n (pc' := 1630) rfl dL_law_1629 rfl ?_
  refine sw_aload_n (pc' := 1631) rfl dL_law_1630 rfl ?_
  refine sw_iload (pc' := 1633) rfl dL_law_1631 rfl ?_
  refine sw_iconst (pc' := 1634) (v := 1) rfl dL_law_1633 (by decide +kernel) ?_
  refine sw_iadd (pc' := 1635) rfl dL_law_1634 ?_
  rw [show (nI i) + 1 = nI (i + 1) from nI_add _ _]
  refine sw_iald (j := i + 1) (pc' := 1636) rfl dL_law_1635 hs rfl (by omega) (by omega) ?_
  refine sw_aload_n (pc' := 1637) rfl dL_law_1636 rfl ?_
  refine sw_iload (pc' := 1639) rfl dL_law_1637 rfl ?_
  refine sw_iconst (pc' := 1640) (v := 2) rfl dL_law_1639 (by decide +kernel) ?_
  refine sw_iadd (pc' := 1641) rfl dL_law_1640 ?_
  rw [show (nI i) + 2 = nI (i + 2) from nI_add _ _]
  refine sw_iald (j := i + 2) (pc' := 1642) rfl dL_law_1641 hs rfl (by omega) (by omega) ?_
  refine sw_if_eq (pc' := 1645) (tgt := 1649) rfl dL_law_1642 (by decide +kernel) (fun c1642 => ?_) (fun c1642 => ?_)
  · refine sw_iconst (pc' := 1650) (v := 0) rfl dL_law_1649 (by decide +kernel) ?_
    refine sw_aload_n (pc' := 1651) rfl dL_law_1650 rfl ?_
    refine sw_S (M' := ML_end) (d' := d - 1) (bc' := 60) (bs' := 400) (as := [_, _, _, _]) dL_law_1651 w_1060 ok_L_end (L_end hR hT hV hN hO hn (by omega) (Nat.le_refl _) (Nat.le_refl _)) (by omega) (Nat.le_of_ble_eq_true rfl) (by omega) (by omega) (fun E h' n' _ z => lpo_x z) (lpo_k (fun p pn pw ps pk pR pO pv pF => ?_))
    refine sw_istore (pc' := 1656) (lv' := [(5, _), (4, _), (3, _), (2, _), (1, _), (0, _)]) rfl dL_law_1654 (by decide +kernel) rfl ?_
    refine sw_aload_n (pc' := 1657) rfl dL_law_1656 rfl ?_
    refine sw_aload_n (pc' := 1658) rfl dL_law_1657 rfl ?_
    refine sw_iload (pc' := 1660) rfl dL_law_1658 rfl ?_
    refine sw_iconst (pc' := 1661) (v := 1) rfl dL_law_1660 (by decide +kernel) ?_
    refine sw_iadd (pc' := 1662) rfl dL_law_1661 ?_
    rw [show (nI i) + 1 = nI (i + 1) from nI_add _ _]
    refine sw_iald (j := i + 1) (pc' := 1663) rfl dL_law_1662 ((pF 0 (by omega) (by omega) (by omega)).trans hs) rfl (by omega) (by omega) ?_
    refine sw_aload_n (pc' := 1664) rfl dL_law_1663 rfl ?_
    refine sw_iload (pc' := 1666) rfl dL_law_1664 rfl ?_
    refine sw_iconst (pc' := 1667) (v := 2) rfl dL_law_1666 (by decide +kernel) ?_
    refine sw_iadd (pc' := 1668) rfl dL_law_1667 ?_
    rw [show (nI i) + 2 = nI (i + 2) from nI_add _ _]
    refine sw_iald (j := i + 2) (pc' := 1669) rfl dL_law_1668 ((pF 0 (by omega) (by omega) (by omega)).trans hs) rfl (by omega) (by omega) ?_
    refine sw_if_eq (pc' := 1672) (tgt := 1676) rfl dL_law_1669 (by decide +kernel) (fun c1669 => ?_) (fun c1669 => ?_)
    · refine sw_iconst (pc' := 1677) (v := 0) rfl dL_law_1676 (by decide +kernel) ?_
      have hQ2 := hQ.fr (fun i a b => pF i (by omega) (by omega) (by omega))
      obtain ⟨ρ, τ, hM, hA⟩ := id hQ2
      refine sw_V (M' := MX5_end) (d' := d - 1) (bc' := 1) (bs' := 12) (ci := 6) (as := [_, _]) dL_law_1677 w_1433 ok_X5_end (q_end hQ2 (hV.iv hN) (by omega) (by omega) (Nat.le_refl _) (Nat.le_refl _)) hM.ob rfl (by omega) (Nat.le_of_ble_eq_true rfl) (by omega) (by omega) (fun E h' n' _ z => pmc_x z) (pmc_k ox_end (fun u un ub uk uv uR uF => ?_))
      refine sw_istore (pc' := 1682) (lv' := [(6, _), (5, _), (4, _), (3, _), (2, _), (1, _), (0, _)]) rfl dL_law_1680 (by decide +kernel) rfl ?_
      refine sw_goto (tgt := 1944) dL_law_1682 (by decide +kernel) ?_
      have J : LI L xs u un (opEnd σ (xs (i + 1)) 0).2 (N + 12) := ⟨pR.frT (fun i hi => uF i (by omega) (by omega)), ⟨_, uR⟩, hT.fr (fun i hi => (uF i (by omega) (by omega)).trans (pF i (by omega) (by omega) (by omega))), iv_end hV, ⟨_, _, (uF 158 (by omega) (by omega)).trans pO⟩, (uF 0 (by omega) (by omega)).trans ((pF 0 (by omega) (by omega) (by omega)).trans hs), by omega⟩
      exact SW.pick [2, 3, 4, 5, 6] rfl ((K u un _ (by omega) J).bud (by omega) (by omega))
    · exact absurd c1642 c1669
  · refine sw_iconst (pc' := 1646) (v := 1) rfl dL_law_1645 (by decide +kernel) ?_
    refine sw_goto (tgt := 1650) dL_law_1646 (by decide +kernel) ?_
    refine sw_aload_n (pc' := 1651) rfl dL_law_1650 rfl ?_
    refine sw_S (M' := ML_end) (d' := d - 1) (bc' := 60) (bs' := 400) (as := [_, _, _, _]) dL_law_1651 w_1060 ok_L_end (L_end hR hT hV hN hO hn (by omega) (Nat.le_refl _) (Nat.le_refl _)) (by omega) (Nat.le_of_ble_eq_true rfl) (by omega) (by omega) (fun E h' n' _ z => lpo_x z) (lpo_k (fun p pn pw ps pk pR pO pv pF => ?_))
    refine sw_istore (pc' := 1656) (lv' := [(5, _), (4, _), (3, _), (2, _), (1, _), (0, _)]) rfl dL_law_1654 (by decide +kernel) rfl ?_
    refine sw_aload_n (pc' := 1657) rfl dL_law_1656 rfl ?_
    refine sw_aload_n (pc' := 1658) rfl dL_law_1657 rfl ?_
    refine sw_iload (pc' := 1660) rfl dL_law_1658 rfl ?_
    refine sw_iconst (pc' := 1661) (v := 1) rfl dL_law_1660 (by decide +kernel) ?_
    refine sw_iadd (pc' := 1662) rfl dL_law_1661 ?_
    rw [show (nI i) + 1 = nI (i + 1) from nI_add _ _]
    refine sw_iald (j := i + 1) (pc' := 1663) rfl dL_law_1662 ((pF 0 (by omega) (by omega) (by omega)).trans hs) rfl (by omega) (by omega) ?_
    refine sw_aload_n (pc' := 1664) rfl dL_law_1663 rfl ?_
    refine sw_iload (pc' := 1666) rfl dL_law_1664 rfl ?_
    refine sw_iconst (pc' := 1667) (v := 2) rfl dL_law_1666 (by decide +kernel) ?_
    refine sw_iadd (pc' := 1668) rfl dL_law_1667 ?_
    rw [show (nI i) + 2 = nI (i + 2) from nI_add _ _]
    refine sw_iald (j := i + 2) (pc' := 1669) rfl dL_law_1668 ((pF 0 (by omega) (by omega) (by omega)).trans hs) rfl (by omega) (by omega) ?_
    refine sw_if_eq (pc' := 1672) (tgt := 1676) rfl dL_law_1669 (by decide +kernel) (fun c1669 => ?_) (fun c1669 => ?_)
    · exact absurd c1669 c1642
    · refine sw_iconst (pc' := 1673) (v := 1) rfl dL_law_1672 (by decide +kernel) ?_
      refine sw_goto (tgt := 1677) dL_law_1673 (by decide +kernel) ?_
      have hQ2 := hQ.fr (fun i a b => pF i (by omega) (by omega) (by omega))
      obtain ⟨ρ, τ, hM, hA⟩ := id hQ2
      refine sw_V (M' := MX5_end) (d' := d - 1) (bc' := 1) (bs' := 12) (ci := 6) (as := [_, _]) dL_law_1677 w_1433 ok_X5_end (q_end hQ2 (hV.iv hN) (by omega) (by omega) (Nat.le_refl _) (Nat.le_refl _)) hM.ob rfl (by omega) (Nat.le_of_ble_eq_true rfl) (by omega) (by omega) (fun E h' n' _ z => pmc_x z) (pmc_k ox_end (fun u un ub uk uv uR uF => ?_))
      refine sw_istore (pc' := 1682) (lv' := [(6, _), (5, _), (4, _), (3, _), (2, _), (1, _), (0, _)]) rfl dL_law_1680 (by decide +kernel) rfl ?_
      refine sw_goto (tgt := 1944) dL_law_1682 (by decide +kernel) ?_
      have J : LI L xs u un (opEnd σ (xs (i + 1)) 1).2 (N + 12) := ⟨pR.frT (fun i hi => uF i (by omega) (by omega)), ⟨_, uR⟩, hT.fr (fun i hi => (uF i (by omega) (by omega)).trans (pF i (by omega) (by omega) (by omega))), iv_end hV, ⟨_, _, (uF 158 (by omega) (by omega)).trans pO⟩, (uF 0 (by omega) (by omega)).trans ((pF 0 (by omega) (by omega) (by omega)).trans hs), by omega⟩
      exact SW.pick [2, 3, 4, 5, 6] rfl ((K u un _ (by omega) J).bud (by omega) (by omega))
theorem lc_35 {L : Nat} {xs : Nat → Int32} {h : AH} {n i N d bc bs : Nat} {σ : CS} {Post : ARes → AH → Nat → Prop} (hI : LI L xs h n σ N) (hN : N < 2 ^ 31) (hL : L ≤ 3072) (hi : i + 6 ≤ L) (hd : 20 ≤ d) (h1 : 380 ≤ bc) (h2 : 4500 ≤ bs) (K : ∀ (h' : AH) (n' : Nat) (σ' : CS), n ≤ n' → LI L xs h' n' σ' (N + 12) → SW SR0 ML_law d (bc - 380) (bs - 4500) 1944 [(4, .int (nI i)), (3, .ref 158), (2, .ref 135), (1, .ref 100), (0, .ref 0)] [] h' n' Post) : SW SR0 ML_law d bc bs 1685 [(4, .int (nI i)), (3, .ref 158), (2, .ref 135), (1, .ref 100), (0, .ref 0)] [] h n Post := by
  obtain ⟨hR, ⟨th, hQ⟩, hT, hV, ⟨w, s, hO⟩, hs, hn⟩ := hI
  refine sw_aload_n (pc' := 1686) rfl dL_law_1685 rfl ?_
  refine sw_aload_n (pc' := 1687) rfl dL_law_1686 rfl ?_
  refine sw_iload (pc' := 1689) rfl dL_law_1687 rfl ?_
  refine sw_iconst (pc' := 1690) (v := 1) rfl dL_law_1689 (by decide +kernel) ?_
  refine sw_iadd (pc' := 1691) rfl dL_law_1690 ?_
  rw [show (nI i) + 1 = nI (i + 1) from nI_add _ _]
  refine sw_iald (j := i + 1) (pc' := 1692) rfl dL_law_1691 hs rfl (by omega) (by omega) ?_
  refine sw_aload_n (pc' := 1693) rfl dL_law_1692 rfl ?_
  refine sw_S (M' := ML_code) (d' := d - 1) (bc' := 60) (bs' := 400) (as := [_, _, _]) dL_law_1693 w_1069 ok_L_code (L_code hR hT hV hN hO hn (by omega) (Nat.le_refl _) (Nat.le_refl _)) (by omega) (Nat.le_of_ble_eq_true rfl) (by omega) (by omega) (fun E h' n' _ z => lpo_x z) (lpo_k (fun p pn pw ps pk pR pO pv pF => ?_))
  refine sw_istore (pc' := 1698) (lv' := [(5, _), (4, _), (3, _), (2, _), (1, _), (0, _)]) rfl dL_law_1696 (by decide +kernel) rfl ?_
  refine sw_aload_n (pc' := 1699) rfl dL_law_1698 rfl ?_
  refine sw_aload_n (pc' := 1700) rfl dL_law_1699 rfl ?_
  refine sw_iload (pc' := 1702) rfl dL_law_1700 rfl ?_
  refine sw_iconst (pc' := 1703) (v := 1) rfl dL_law_1702 (by decide +kernel) ?_
  refine sw_iadd (pc' := 1704) rfl dL_law_1703 ?_
  rw [show (nI i) + 1 = nI (i + 1) from nI_add _ _]
  refine sw_iald (j := i + 1) (pc' := 1705) rfl dL_law_1704 ((pF 0 (by omega) (by omega) (by omega)).trans hs) rfl (by omega) (by omega) ?_
  have hQ2 := hQ.fr (fun i a b => pF i (by omega) (by omega) (by omega))
  obtain ⟨ρ, τ, hM, hA⟩ := id hQ2
  refine sw_V (M' := MX5_code) (d' := d - 1) (bc' := 1) (bs' := 12) (ci := 6) (as := [_]) dL_law_1705 w_1439 ok_X5_code (q_code hQ2 (hV.iv hN) (by omega) (by omega) (Nat.le_refl _) (Nat.le_refl _)) hM.ob rfl (by omega) (Nat.le_of_ble_eq_true rfl) (by omega) (by omega) (fun E h' n' _ z => pmc_x z) (pmc_k ox_code (fun u un ub uk uv uR uF => ?_))
  refine sw_istore (pc' := 1710) (lv' := [(6, _), (5, _), (4, _), (3, _), (2, _), (1, _), (0, _)]) rfl dL_law_1708 (by decide +kernel) rfl ?_
  refine sw_goto (tgt := 1944) dL_law_1710 (by decide +kernel) ?_
  have J : LI L xs u un (opCode σ (xs (i + 1))).2 (N + 12) := ⟨pR.frT (fun i hi => uF i (by omega) (by omega)), ⟨_, uR⟩, hT.fr (fun i hi => (uF i (by omega) (by omega)).trans (pF i (by omega) (by omega) (by omega))), iv_code hV, ⟨_, _, (uF 158 (by omega) (by omega)).trans pO⟩, (uF 0 (by omega) (by omega)).trans ((pF 0 (by omega) (by omega) (by omega)).trans hs), by omega⟩
  exact SW.pick [2, 3, 4, 5, 6] rfl ((K u un _ (by omega) J).bud (by omega) (by omega))
theorem lc_36 {L : Nat} {xs : Nat → Int32} {h : AH} {n i N d bc bs : Nat} {σ : CS} {Post : ARes → AH → Nat → Prop} (hI : LI L xs h n σ N) (hN : N < 2 ^ 31) (hL : L ≤ 3072) (hi : i + 6 ≤ L) (hd : 20 ≤ d) (h1 : 380 ≤ bc) (h2 : 4500 ≤ bs) (K : ∀ (h' : AH) (n' : Nat) (σ' : CS), n ≤ n' → LI L xs h' n' σ' (N + 12) → SW SR0 ML_law d (bc - 380) (bs - 4500) 1944 [(4, .int (nI i)), (3, .ref 158), (2, .ref 135), (1, .ref 100), (0, .ref 0)] [] h' n' Post) : SW SR0 ML_law d bc bs 1713 [(4, .int (nI i)), (3, .ref 158), (2, .ref 135), (1, .ref 100), (0, .ref 0)] [] h n Post := by
  obtain ⟨hR, ⟨th, hQ⟩, hT, hV, ⟨w, s, hO⟩, hs, hn⟩ := hI
  refine sw_aload_n (pc' := 1714) rfl dL_law_1713 rfl ?_
  refine sw_aload_n (pc' := 1715) rfl dL_law_1714 rfl ?_
  refine sw_iload (pc' := 1717) rfl dL_law_1715 rfl ?_
  refine sw_iconst (pc' := 1718) (v := 1) rfl dL_law_1717 (by decide +kernel) ?_
  refine sw_iadd (pc' := 1719) rfl dL_law_1718 ?_
  rw [show (nI i) + 1 = nI (i + 1) from nI_add _ _]
  refine sw_iald (j := i + 1) (pc' := 1720) rfl dL_law_1719 hs rfl (by omega) (by omega) ?_
  refine sw_aload_n (pc' := 1721) rfl dL_law_1720 rfl ?_
  refine sw_iload (pc' := 1723) rfl dL_law_1721 rfl ?_
  refine sw_iconst (pc' := 1724) (v := 2) rfl dL_law_1723 (by decide +kernel) ?_
  refine sw_iadd (pc' := 1725) rfl dL_law_1724 ?_
  rw [show (nI i) + 2 = nI (i + 2) from nI_add _ _]
  refine sw_iald (j := i + 2) (pc' := 1726) rfl dL_law_1725 hs rfl (by omega) (by omega) ?_
  refine sw_aload_n (pc' := 1727) rfl dL_law_1726 rfl ?_
  refine sw_S (M' := ML_areAlike) (d' := d - 1) (bc' := 60) (bs' := 400) (as := [_, _, _, _]) dL_law_1727 w_1076 ok_L_areAlike (L_areAlike hR hT hV hN hO hn (by omega) (Nat.le_refl _) (Nat.le_refl _)) (by omega) (Nat.le_of_ble_eq_true rfl) (by omega) (by omega) (fun E h' n' _ z => lpo_x z) (lpo_k (fun p pn pw ps pk pR pO pv pF => ?_))
  refine sw_istore (pc' := 1732) (lv' := [(5, _), (4, _), (3, _), (2, _), (1, _), (0, _)]) rfl dL_law_1730 (by decide +kernel) rfl ?_
  refine sw_aload_n (pc' := 1733) rfl dL_law_1732 rfl ?_
  refine sw_aload_n (pc' := 1734) rfl dL_law_1733 rfl ?_
  refine sw_iload (pc' := 1736) rfl dL_law_1734 rfl ?_
  refine sw_iconst (pc' := 1737) (v := 1) rfl dL_law_1736 (by decide +kernel) ?_
  refine sw_iadd (pc' := 1738) rfl dL_law_1737 ?_
  rw [show (nI i) + 1 = nI (i + 1) from nI_add _ _]
  refine sw_iald (j := i + 1) (pc' := 1739) rfl dL_law_1738 ((pF 0 (by omega) (by omega) (by omega)).trans hs) rfl (by omega) (by omega) ?_
  refine sw_aload_n (pc' := 1740) rfl dL_law_1739 rfl ?_
  refine sw_iload (pc' := 1742) rfl dL_law_1740 rfl ?_
  refine sw_iconst (pc' := 1743) (v := 2) rfl dL_law_1742 (by decide +kernel) ?_
  refine sw_iadd (pc' := 1744) rfl dL_law_1743 ?_
  rw [show (nI i) + 2 = nI (i + 2) from nI_add _ _]
  refine sw_iald (j := i + 2) (pc' := 1745) rfl dL_law_1744 ((pF 0 (by omega) (by omega) (by omega)).trans hs) rfl (by omega) (by omega) ?_
  have hQ2 := hQ.fr (fun i a b => pF i (by omega) (by omega) (by omega))
  obtain ⟨ρ, τ, hM, hA⟩ := id hQ2
  refine sw_V (M' := MX5_areAlike) (d' := d - 1) (bc' := 1) (bs' := 12) (ci := 6) (as := [_, _]) dL_law_1745 w_1443 ok_X5_areAlike (q_areAlike hQ2 (hV.iv hN) (by omega) (by omega) (Nat.le_refl _) (Nat.le_refl _)) hM.ob rfl (by omega) (Nat.le_of_ble_eq_true rfl) (by omega) (by omega) (fun E h' n' _ z => pmc_x z) (pmc_k ox_areAlike (fun u un ub uk uv uR uF => ?_))
  refine sw_istore (pc' := 1750) (lv' := [(6, _), (5, _), (4, _), (3, _), (2, _), (1, _), (0, _)]) rfl dL_law_1748 (by decide +kernel) rfl ?_
  refine sw_goto (tgt := 1944) dL_law_1750 (by decide +kernel) ?_
  have J : LI L xs u un (opAreAlike σ (xs (i + 1)) (xs (i + 2))).2 (N + 12) := ⟨pR.frT (fun i hi => uF i (by omega) (by omega)), ⟨_, uR⟩, hT.fr (fun i hi => (uF i (by omega) (by omega)).trans (pF i (by omega) (by omega) (by omega))), iv_areAlike hV, ⟨_, _, (uF 158 (by omega) (by omega)).trans pO⟩, (uF 0 (by omega) (by omega)).trans ((pF 0 (by omega) (by omega) (by omega)).trans hs), by omega⟩
  exact SW.pick [2, 3, 4, 5, 6] rfl ((K u un _ (by omega) J).bud (by omega) (by omega))
theorem lc_37 {L : Nat} {xs : Nat → Int32} {h : AH} {n i N d bc bs : Nat} {σ : CS} {Post : ARes → AH → Nat → Prop} (hI : LI L xs h n σ N) (hN : N < 2 ^ 31) (hL : L ≤ 3072) (hi : i + 6 ≤ L) (hd : 20 ≤ d) (h1 : 380 ≤ bc) (h2 : 4500 ≤ bs) (K : ∀ (h' : AH) (n' : Nat) (σ' : CS), n ≤ n' → LI L xs h' n' σ' (N + 12) → SW SR0 ML_law d (bc - 380) (bs - 4500) 1944 [(4, .int (nI i)), (3, .ref 158), (2, .ref 135), (1, .ref 100), (0, .ref 0)] [] h' n' Post) : SW SR0 ML_law d bc bs 1753 [(4, .int (nI i)), (3, .ref 158), (2, .ref 135), (1, .ref 100), (0, .ref 0)] [] h n Post := by
  obtain ⟨hR, ⟨th, hQ⟩, hT, hV, ⟨w, s, hO⟩, hs, hn⟩ := hI
  refine sw_aload_n (pc' := 1754) rfl dL_law_1753 rfl ?_
  refine sw_aload_n (pc' := 1755) rfl dL_law_1754 rfl ?_
  refine sw_iload (pc' := 1757) rfl dL_law_1755 rfl ?_
  refine sw_iconst (pc' := 1758) (v := 1) rfl dL_law_1757 (by decide +kernel) ?_
  refine sw_iadd (pc' := 1759) rfl dL_law_1758 ?_
  rw [show (nI i) + 1 = nI (i + 1) from nI_add _ _]
  refine sw_iald (j := i + 1) (pc' := 1760) rfl dL_law_1759 hs rfl (by omega) (by omega) ?_
  refine sw_aload_n (pc' := 1761) rfl dL_law_1760 rfl ?_
  refine sw_iload (pc' := 1763) rfl dL_law_1761 rfl ?_
  refine sw_iconst (pc' := 1764) (v := 2) rfl dL_law_1763 (by decide +kernel) ?_
  refine sw_iadd (pc' := 1765) rfl dL_law_1764 ?_
  rw [show (nI i) + 2 = nI (i + 2) from nI_add _ _]
  refine sw_iald (j := i + 2) (pc' := 1766) rfl dL_law_1765 hs rfl (by omega) (by omega) ?_
  refine sw_if_eq (pc' := 1769) (tgt := 1773) rfl dL_law_1766 (by decide +kernel) (fun c1766 => ?_) (fun c1766 => ?_)
  · refine sw_iconst (pc' := 1774) (v := 0) rfl dL_law_1773 (by decide +kernel) ?_
    refine sw_aload_n (pc' := 1775) rfl dL_law_1774 rfl ?_
    refine sw_S (M' := ML_first) (d' := d - 1) (bc' := 60) (bs' := 400) (as := [_, _, _, _]) dL_law_1775 w_1083 ok_L_first (L_first hR hT hV hN hO hn (by omega) (Nat.le_refl _) (Nat.le_refl _)) (by omega) (Nat.le_of_ble_eq_true rfl) (by omega) (by omega) (fun E h' n' _ z => lpo_x z) (lpo_k (fun p pn pw ps pk pR pO pv pF => ?_))
    refine sw_istore (pc' := 1780) (lv' := [(5, _), (4, _), (3, _), (2, _), (1, _), (0, _)]) rfl dL_law_1778 (by decide +kernel) rfl ?_
    refine sw_aload_n (pc' := 1781) rfl dL_law_1780 rfl ?_
    refine sw_aload_n (pc' := 1782) rfl dL_law_1781 rfl ?_
    refine sw_iload (pc' := 1784) rfl dL_law_1782 rfl ?_
    refine sw_iconst (pc' := 1785) (v := 1) rfl dL_law_1784 (by decide +kernel) ?_
    refine sw_iadd (pc' := 1786) rfl dL_law_1785 ?_
    rw [show (nI i) + 1 = nI (i + 1) from nI_add _ _]
    refine sw_iald (j := i + 1) (pc' := 1787) rfl dL_law_1786 ((pF 0 (by omega) (by omega) (by omega)).trans hs) rfl (by omega) (by omega) ?_
    refine sw_aload_n (pc' := 1788) rfl dL_law_1787 rfl ?_
    refine sw_iload (pc' := 1790) rfl dL_law_1788 rfl ?_
    refine sw_iconst (pc' := 1791) (v := 2) rfl dL_law_1790 (by decide +kernel) ?_
    refine sw_iadd (pc' := 1792) rfl dL_law_1791 ?_
    rw [show (nI i) + 2 = nI (i + 2) from nI_add _ _]
    refine sw_iald (j := i + 2) (pc' := 1793) rfl dL_law_1792 ((pF 0 (by omega) (by omega) (by omega)).trans hs) rfl (by omega) (by omega) ?_
    refine sw_if_eq (pc' := 1796) (tgt := 1800) rfl dL_law_1793 (by decide +kernel) (fun c1793 => ?_) (fun c1793 => ?_)
    · refine sw_iconst (pc' := 1801) (v := 0) rfl dL_law_1800 (by decide +kernel) ?_
      have hQ2 := hQ.fr (fun i a b => pF i (by omega) (by omega) (by omega))
      obtain ⟨ρ, τ, hM, hA⟩ := id hQ2
      refine sw_V (M' := MX5_first) (d' := d - 1) (bc' := 1) (bs' := 12) (ci := 6) (as := [_, _]) dL_law_1801 w_1447 ok_X5_first (q_first hQ2 (hV.iv hN) (by omega) (by omega) (Nat.le_refl _) (Nat.le_refl _)) hM.ob rfl (by omega) (Nat.le_of_ble_eq_true rfl) (by omega) (by omega) (fun E h' n' _ z => pmc_x z) (pmc_k ox_first (fun u un ub uk uv uR uF => ?_))
      refine sw_istore (pc' := 1806) (lv' := [(6, _), (5, _), (4, _), (3, _), (2, _), (1, _), (0, _)]) rfl dL_law_1804 (by decide +kernel) rfl ?_
      refine sw_goto (tgt := 1944) dL_law_1806 (by decide +kernel) ?_
      have J : LI L xs u un (opFirst σ (xs (i + 1)) 0).2 (N + 12) := ⟨pR.frT (fun i hi => uF i (by omega) (by omega)), ⟨_, uR⟩, hT.fr (fun i hi => (uF i (by omega) (by omega)).trans (pF i (by omega) (by omega) (by omega))), iv_first hV, ⟨_, _, (uF 158 (by omega) (by omega)).trans pO⟩, (uF 0 (by omega) (by omega)).trans ((pF 0 (by omega) (by omega) (by omega)).trans hs), by omega⟩
      exact SW.pick [2, 3, 4, 5, 6] rfl ((K u un _ (by omega) J).bud (by omega) (by omega))
    · exact absurd c1766 c1793
  · refine sw_iconst (pc' := 1770) (v := 1) rfl dL_law_1769 (by decide +kernel) ?_
    refine sw_goto (tgt := 1774) dL_law_1770 (by decide +kernel) ?_
    refine sw_aload_n (pc' := 1775) rfl dL_law_1774 rfl ?_
    refine sw_S (M' := ML_first) (d' := d - 1) (bc' := 60) (bs' := 400) (as := [_, _, _, _]) dL_law_1775 w_1083 ok_L_first (L_first hR hT hV hN hO hn (by omega) (Nat.le_refl _) (Nat.le_refl _)) (by omega) (Nat.le_of_ble_eq_true rfl) (by omega) (by omega) (fun E h' n' _ z => lpo_x z) (lpo_k (fun p pn pw ps pk pR pO pv pF => ?_))
    refine sw_istore (pc' := 1780) (lv' := [(5, _), (4, _), (3, _), (2, _), (1, _), (0, _)]) rfl dL_law_1778 (by decide +kernel) rfl ?_
    refine sw_aload_n (pc' := 1781) rfl dL_law_1780 rfl ?_
    refine sw_aload_n (pc' := 1782) rfl dL_law_1781 rfl ?_
    refine sw_iload (pc' := 1784) rfl dL_law_1782 rfl ?_
    refine sw_iconst (pc' := 1785) (v := 1) rfl dL_law_1784 (by decide +kernel) ?_
    refine sw_iadd (pc' := 1786) rfl dL_law_1785 ?_
    rw [show (nI i) + 1 = nI (i + 1) from nI_add _ _]
    refine sw_iald (j := i + 1) (pc' := 1787) rfl dL_law_1786 ((pF 0 (by omega) (by omega) (by omega)).trans hs) rfl (by omega) (by omega) ?_
    refine sw_aload_n (pc' := 1788) rfl dL_law_1787 rfl ?_
    refine sw_iload (pc' := 1790) rfl dL_law_1788 rfl ?_
    refine sw_iconst (pc' := 1791) (v := 2) rfl dL_law_1790 (by decide +kernel) ?_
    refine sw_iadd (pc' := 1792) rfl dL_law_1791 ?_
    rw [show (nI i) + 2 = nI (i + 2) from nI_add _ _]
    refine sw_iald (j := i + 2) (pc' := 1793) rfl dL_law_1792 ((pF 0 (by omega) (by omega) (by omega)).trans hs) rfl (by omega) (by omega) ?_
    refine sw_if_eq (pc' := 1796) (tgt := 1800) rfl dL_law_1793 (by decide +kernel) (fun c1793 => ?_) (fun c1793 => ?_)
    · exact absurd c1793 c1766
    · refine sw_iconst (pc' := 1797) (v := 1) rfl dL_law_1796 (by decide +kernel) ?_
      refine sw_goto (tgt := 1801) dL_law_1797 (by decide +kernel) ?_
      have hQ2 := hQ.fr (fun i a b => pF i (by omega) (by omega) (by omega))
      obtain ⟨ρ, τ, hM, hA⟩ := id hQ2
      refine sw_V (M' := MX5_first) (d' := d - 1) (bc' := 1) (bs' := 12) (ci := 6) (as := [_, _]) dL_law_1801 w_1447 ok_X5_first (q_first hQ2 (hV.iv hN) (by omega) (by omega) (Nat.le_refl _) (Nat.le_refl _)) hM.ob rfl (by omega) (Nat.le_of_ble_eq_true rfl) (by omega) (by omega) (fun E h' n' _ z => pmc_x z) (pmc_k ox_first (fun u un ub uk uv uR uF => ?_))
      refine sw_istore (pc' := 1806) (lv' := [(6, _), (5, _), (4, _), (3, _), (2, _), (1, _), (0, _)]) rfl dL_law_1804 (by decide +kernel) rfl ?_
      refine sw_goto (tgt := 1944) dL_law_1806 (by decide +kernel) ?_
      have J : LI L xs u un (opFirst σ (xs (i + 1)) 1).2 (N + 12) := ⟨pR.frT (fun i hi => uF i (by omega) (by omega)), ⟨_, uR⟩, hT.fr (fun i hi => (uF i (by omega) (by omega)).trans (pF i (by omega) (by omega) (by omega))), iv_first hV, ⟨_, _, (uF 158 (by omega) (by omega)).trans pO⟩, (uF 0 (by omega) (by omega)).trans ((pF 0 (by omega) (by omega) (by omega)).trans hs), by omega⟩
      exact SW.pick [2, 3, 4, 5, 6] rfl ((K u un _ (by omega) J).bud (by omega) (by omega))
theorem lc_38 {L : Nat} {xs : Nat → Int32} {h : AH} {n i N d bc bs : Nat} {σ : CS} {Post : ARes → AH → Nat → Prop} (hI : LI L xs h n σ N) (hN : N < 2 ^ 31) (hL : L ≤ 3072) (hi : i + 6 ≤ L) (hd : 20 ≤ d) (h1 : 380 ≤ bc) (h2 : 4500 ≤ bs) (K : ∀ (h' : AH) (n' : Nat) (σ' : CS), n ≤ n' → LI L xs h' n' σ' (N + 12) → SW SR0 ML_law d (bc - 380) (bs - 4500) 1944 [(4, .int (nI i)), (3, .ref 158), (2, .ref 135), (1, .ref 100), (0, .ref 0)] [] h' n' Post) : SW SR0 ML_law d bc bs 1809 [(4, .int (nI i)), (3, .ref 158), (2, .ref 135), (1, .ref 100), (0, .ref 0)] [] h n Post := by
  obtain ⟨hR, ⟨th, hQ⟩, hT, hV, ⟨w, s, hO⟩, hs, hn⟩ := hI
  refine sw_aload_n (pc' := 1810) rfl dL_law_1809 rfl ?_
  refine sw_aload_n (pc' := 1811) rfl dL_law_1810 rfl ?_
  refine sw_iload (pc' := 1813) rfl dL_law_1811 rfl ?_
  refine sw_iconst (pc' := 1814) (v := 1) rfl dL_law_1813 (by decide +kernel) ?_
  refine sw_iadd (pc' := 1815) rfl dL_law_1814 ?_
  rw [show (nI i) + 1 = nI (i + 1) from nI_add _ _]
  refine sw_iald (j := i + 1) (pc' := 1816) rfl dL_law_1815 hs rfl (by omega) (by omega) ?_
  refine sw_aload_n (pc' := 1817) rfl dL_law_1816 rfl ?_
  refine sw_S (M' := ML_valueOf) (d' := d - 1) (bc' := 60) (bs' := 400) (as := [_, _, _]) dL_law_1817 w_1090 ok_L_valueOf (L_valueOf hR hT hV hN hO hn (by omega) (Nat.le_refl _) (Nat.le_refl _)) (by omega) (Nat.le_of_ble_eq_true rfl) (by omega) (by omega) (fun E h' n' _ z => lpo_x z) (lpo_k (fun p pn pw ps pk pR pO pv pF => ?_))
  refine sw_istore (pc' := 1822) (lv' := [(5, _), (4, _), (3, _), (2, _), (1, _), (0, _)]) rfl dL_law_1820 (by decide +kernel) rfl ?_
  refine sw_aload_n (pc' := 1823) rfl dL_law_1822 rfl ?_
  refine sw_aload_n (pc' := 1824) rfl dL_law_1823 rfl ?_
  refine sw_iload (pc' := 1826) rfl dL_law_1824 rfl ?_
  refine sw_iconst (pc' := 1827) (v := 1) rfl dL_law_1826 (by decide +kernel) ?_
  refine sw_iadd (pc' := 1828) rfl dL_law_1827 ?_
  rw [show (nI i) + 1 = nI (i + 1) from nI_add _ _]
  refine sw_iald (j := i + 1) (pc' := 1829) rfl dL_law_1828 ((pF 0 (by omega) (by omega) (by omega)).trans hs) rfl (by omega) (by omega) ?_
  have hQ2 := hQ.fr (fun i a b => pF i (by omega) (by omega) (by omega))
  obtain ⟨ρ, τ, hM, hA⟩ := id hQ2
  refine sw_V (M' := MX5_valueOf) (d' := d - 1) (bc' := 1) (bs' := 12) (ci := 6) (as := [_]) dL_law_1829 w_1451 ok_X5_valueOf (q_valueOf hQ2 (hV.iv hN) (by omega) (by omega) (Nat.le_refl _) (Nat.le_refl _)) hM.ob rfl (by omega) (Nat.le_of_ble_eq_true rfl) (by omega) (by omega) (fun E h' n' _ z => pmc_x z) (pmc_k ox_valueOf (fun u un ub uk uv uR uF => ?_))
  refine sw_istore (pc' := 1834) (lv' := [(6, _), (5, _), (4, _), (3, _), (2, _), (1, _), (0, _)]) rfl dL_law_1832 (by decide +kernel) rfl ?_
  refine sw_goto (tgt := 1944) dL_law_1834 (by decide +kernel) ?_
  have J : LI L xs u un (opValueOf σ (xs (i + 1))).2 (N + 12) := ⟨pR.frT (fun i hi => uF i (by omega) (by omega)), ⟨_, uR⟩, hT.fr (fun i hi => (uF i (by omega) (by omega)).trans (pF i (by omega) (by omega) (by omega))), iv_valueOf hV, ⟨_, _, (uF 158 (by omega) (by omega)).trans pO⟩, (uF 0 (by omega) (by omega)).trans ((pF 0 (by omega) (by omega) (by omega)).trans hs), by omega⟩
  exact SW.pick [2, 3, 4, 5, 6] rfl ((K u un _ (by omega) J).bud (by omega) (by omega))
theorem lc_39 {L : Nat} {xs : Nat → Int32} {h : AH} {n i N d bc bs : Nat} {σ : CS} {Post : ARes → AH → Nat → Prop} (hI : LI L xs h n σ N) (hN : N < 2 ^ 31) (hL : L ≤ 3072) (hi : i + 6 ≤ L) (hd : 20 ≤ d) (h1 : 380 ≤ bc) (h2 : 4500 ≤ bs) (K : ∀ (h' : AH) (n' : Nat) (σ' : CS), n ≤ n' → LI L xs h' n' σ' (N + 12) → SW SR0 ML_law d (bc - 380) (bs - 4500) 1944 [(4, .int (nI i)), (3, .ref 158), (2, .ref 135), (1, .ref 100), (0, .ref 0)] [] h' n' Post) : SW SR0 ML_law d bc bs 1837 [(4, .int (nI i)), (3, .ref 158), (2, .ref 135), (1, .ref 100), (0, .ref 0)] [] h n Post := by
  obtain ⟨hR, ⟨th, hQ⟩, hT, hV, ⟨w, s, hO⟩, hs, hn⟩ := hI
  refine sw_aload_n (pc' := 1838) rfl dL_law_1837 rfl ?_
  refine sw_aload_n (pc' := 1839) rfl dL_law_1838 rfl ?_
  refine sw_iload (pc' := 1841) rfl dL_law_1839 rfl ?_
  refine sw_iconst (pc' := 1842) (v := 1) rfl dL_law_1841 (by decide +kernel) ?_
  refine sw_iadd (pc' := 1843) rfl dL_law_1842 ?_
  rw [show (nI i) + 1 = nI (i + 1) from nI_add _ _]
  refine sw_iald (j := i + 1) (pc' := 1844) rfl dL_law_1843 hs rfl (by omega) (by omega) ?_
  refine sw_aload_n (pc' := 1845) rfl dL_law_1844 rfl ?_
  refine sw_iload (pc' := 1847) rfl dL_law_1845 rfl ?_
  refine sw_iconst (pc' := 1848) (v := 2) rfl dL_law_1847 (by decide +kernel) ?_
  refine sw_iadd (pc' := 1849) rfl dL_law_1848 ?_
  rw [show (nI i) + 2 = nI (i + 2) from nI_add _ _]
  refine sw_iald (j := i + 2) (pc' := 1850) rfl dL_law_1849 hs rfl (by omega) (by omega) ?_
  refine sw_aload_n (pc' := 1851) rfl dL_law_1850 rfl ?_
  refine sw_S (M' := ML_ofWalk) (d' := d - 1) (bc' := 60) (bs' := 400) (as := [_, _, _, _]) dL_law_1851 w_1097 ok_L_ofWalk (L_ofWalk hR hT hV hN hO hn (by omega) (Nat.le_refl _) (Nat.le_refl _)) (by omega) (Nat.le_of_ble_eq_true rfl) (by omega) (by omega) (fun E h' n' _ z => lpo_x z) (lpo_k (fun p pn pw ps pk pR pO pv pF => ?_))
  refine sw_istore (pc' := 1856) (lv' := [(5, _), (4, _), (3, _), (2, _), (1, _), (0, _)]) rfl dL_law_1854 (by decide +kernel) rfl ?_
  refine sw_aload_n (pc' := 1857) rfl dL_law_1856 rfl ?_
  refine sw_aload_n (pc' := 1858) rfl dL_law_1857 rfl ?_
  refine sw_iload (pc' := 1860) rfl dL_law_1858 rfl ?_
  refine sw_iconst (pc' := 1861) (v := 1) rfl dL_law_1860 (by decide +kernel) ?_
  refine sw_iadd (pc' := 1862) rfl dL_law_1861 ?_
  rw [show (nI i) + 1 = nI (i + 1) from nI_add _ _]
  refine sw_iald (j := i + 1) (pc' := 1863) rfl dL_law_1862 ((pF 0 (by omega) (by omega) (by omega)).trans hs) rfl (by omega) (by omega) ?_
  refine sw_aload_n (pc' := 1864) rfl dL_law_1863 rfl ?_
  refine sw_iload (pc' := 1866) rfl dL_law_1864 rfl ?_
  refine sw_iconst (pc' := 1867) (v := 2) rfl dL_law_1866 (by decide +kernel) ?_
  refine sw_iadd (pc' := 1868) rfl dL_law_1867 ?_
  rw [show (nI i) + 2 = nI (i + 2) from nI_add _ _]
  refine sw_iald (j := i + 2) (pc' := 1869) rfl dL_law_1868 ((pF 0 (by omega) (by omega) (by omega)).trans hs) rfl (by omega) (by omega) ?_
  have hQ2 := hQ.fr (fun i a b => pF i (by omega) (by omega) (by omega))
  obtain ⟨ρ, τ, hM, hA⟩ := id hQ2
  refine sw_V (M' := MX5_ofWalk) (d' := d - 1) (bc' := 1) (bs' := 12) (ci := 6) (as := [_, _]) dL_law_1869 w_1455 ok_X5_ofWalk (q_ofWalk hQ2 (hV.iv hN) (by omega) (by omega) (Nat.le_refl _) (Nat.le_refl _)) hM.ob rfl (by omega) (Nat.le_of_ble_eq_true rfl) (by omega) (by omega) (fun E h' n' _ z => pmc_x z) (pmc_k ox_ofWalk (fun u un ub uk uv uR uF => ?_))
  refine sw_istore (pc' := 1874) (lv' := [(6, _), (5, _), (4, _), (3, _), (2, _), (1, _), (0, _)]) rfl dL_law_1872 (by decide +kernel) rfl ?_
  refine sw_goto (tgt := 1944) dL_law_1874 (by decide +kernel) ?_
  have J : LI L xs u un (opOfWalk σ (xs (i + 1)) (xs (i + 2))).2 (N + 12) := ⟨pR.frT (fun i hi => uF i (by omega) (by omega)), ⟨_, uR⟩, hT.fr (fun i hi => (uF i (by omega) (by omega)).trans (pF i (by omega) (by omega) (by omega))), iv_ofWalk hV, ⟨_, _, (uF 158 (by omega) (by omega)).trans pO⟩, (uF 0 (by omega) (by omega)).trans ((pF 0 (by omega) (by omega) (by omega)).trans hs), by omega⟩
  exact SW.pick [2, 3, 4, 5, 6] rfl ((K u un _ (by omega) J).bud (by omega) (by omega))
theorem lc_40 {L : Nat} {xs : Nat → Int32} {h : AH} {n i N d bc bs : Nat} {σ : CS} {Post : ARes → AH → Nat → Prop} (hI : LI L xs h n σ N) (hN : N < 2 ^ 31) (hL : L ≤ 3072) (hi : i + 6 ≤ L) (hd : 20 ≤ d) (h1 : 380 ≤ bc) (h2 : 4500 ≤ bs) (K : ∀ (h' : AH) (n' : Nat) (σ' : CS), n ≤ n' → LI L xs h' n' σ' (N + 12) → SW SR0 ML_law d (bc - 380) (bs - 4500) 1944 [(4, .int (nI i)), (3, .ref 158), (2, .ref 135), (1, .ref 100), (0, .ref 0)] [] h' n' Post) : SW SR0 ML_law d bc bs 1877 [(4, .int (nI i)), (3, .ref 158), (2, .ref 135), (1, .ref 100), (0, .ref 0)] [] h n Post := by
  obtain ⟨hR, ⟨th, hQ⟩, hT, hV, ⟨w, s, hO⟩, hs, hn⟩ := hI
  refine sw_aload_n (pc' := 1878) rfl dL_law_1877 rfl ?_
  refine sw_aload_n (pc' := 1879) rfl dL_law_1878 rfl ?_
  refine sw_iload (pc' := 1881) rfl dL_law_1879 rfl ?_
  refine sw_iconst (pc' := 1882) (v := 1) rfl dL_law_1881 (by decide +kernel) ?_
  refine sw_iadd (pc' := 1883) rfl dL_law_1882 ?_
  rw [show (nI i) + 1 = nI (i + 1) from nI_add _ _]
  refine sw_iald (j := i + 1) (pc' := 1884) rfl dL_law_1883 hs rfl (by omega) (by omega) ?_
  refine sw_aload_n (pc' := 1885) rfl dL_law_1884 rfl ?_
  refine sw_S (M' := ML_house) (d' := d - 1) (bc' := 60) (bs' := 400) (as := [_, _, _]) dL_law_1885 w_1101 ok_L_house (L_house hR hT hV hN hO hn (by omega) (Nat.le_refl _) (Nat.le_refl _)) (by omega) (Nat.le_of_ble_eq_true rfl) (by omega) (by omega) (fun E h' n' _ z => lpo_x z) (lpo_k (fun p pn pw ps pk pR pO pv pF => ?_))
  refine sw_istore (pc' := 1890) (lv' := [(5, _), (4, _), (3, _), (2, _), (1, _), (0, _)]) rfl dL_law_1888 (by decide +kernel) rfl ?_
  refine sw_aload_n (pc' := 1891) rfl dL_law_1890 rfl ?_
  refine sw_aload_n (pc' := 1892) rfl dL_law_1891 rfl ?_
  refine sw_iload (pc' := 1894) rfl dL_law_1892 rfl ?_
  refine sw_iconst (pc' := 1895) (v := 1) rfl dL_law_1894 (by decide +kernel) ?_
  refine sw_iadd (pc' := 1896) rfl dL_law_1895 ?_
  rw [show (nI i) + 1 = nI (i + 1) from nI_add _ _]
  refine sw_iald (j := i + 1) (pc' := 1897) rfl dL_law_1896 ((pF 0 (by omega) (by omega) (by omega)).trans hs) rfl (by omega) (by omega) ?_
  have hQ2 := hQ.fr (fun i a b => pF i (by omega) (by omega) (by omega))
  obtain ⟨ρ, τ, hM, hA⟩ := id hQ2
  refine sw_V (M' := MX5_house) (d' := d - 1) (bc' := 1) (bs' := 12) (ci := 6) (as := [_]) dL_law_1897 w_1463 ok_X5_house (q_house hQ2 (hV.iv hN) (by omega) (by omega) (Nat.le_refl _) (Nat.le_refl _)) hM.ob rfl (by omega) (Nat.le_of_ble_eq_true rfl) (by omega) (by omega) (fun E h' n' _ z => pmc_x z) (pmc_k ox_house (fun u un ub uk uv uR uF => ?_))
  refine sw_istore (pc' := 1902) (lv' := [(6, _), (5, _), (4, _), (3, _), (2, _), (1, _), (0, _)]) rfl dL_law_1900 (by decide +kernel) rfl ?_
  refine sw_goto (tgt := 1944) dL_law_1902 (by decide +kernel) ?_
  have J : LI L xs u un (opHouse σ (xs (i + 1))).2 (N + 12) := ⟨pR.frT (fun i hi => uF i (by omega) (by omega)), ⟨_, uR⟩, hT.fr (fun i hi => (uF i (by omega) (by omega)).trans (pF i (by omega) (by omega) (by omega))), iv_house hV, ⟨_, _, (uF 158 (by omega) (by omega)).trans pO⟩, (uF 0 (by omega) (by omega)).trans ((pF 0 (by omega) (by omega) (by omega)).trans hs), by omega⟩
  exact SW.pick [2, 3, 4, 5, 6] rfl ((K u un _ (by omega) J).bud (by omega) (by omega))
theorem lc_41 {L : Nat} {xs : Nat → Int32} {h : AH} {n i N d bc bs : Nat} {σ : CS} {Post : ARes → AH → Nat → Prop} (hI : LI L xs h n σ N) (hN : N < 2 ^ 31) (hL : L ≤ 3072) (hi : i + 6 ≤ L) (hd : 20 ≤ d) (h1 : 380 ≤ bc) (h2 : 4500 ≤ bs) (K : ∀ (h' : AH) (n' : Nat) (σ' : CS), n ≤ n' → LI L xs h' n' σ' (N + 12) → SW SR0 ML_law d (bc - 380) (bs - 4500) 1944 [(4, .int (nI i)), (3, .ref 158), (2, .ref 135), (1, .ref 100), (0, .ref 0)] [] h' n' Post) : SW SR0 ML_law d bc bs 1905 [(4, .int (nI i)), (3, .ref 158), (2, .ref 135), (1, .ref 100), (0, .ref 0)] [] h n Post := by
  obtain ⟨hR, ⟨th, hQ⟩, hT, hV, ⟨w, s, hO⟩, hs, hn⟩ := hI
  refine sw_aload_n (pc' := 1906) rfl dL_law_1905 rfl ?_
  refine sw_V (M' := MX3_knock) (d' := d - 1) (bc' := 0) (bs' := 0) (ci := 4) (as := []) dL_law_1906 w_172 ok_X3_knock (m_knock hR) hR.1 rfl (by omega) (Nat.le_of_ble_eq_true rfl) (Nat.zero_le _) (Nat.zero_le _) (fun E h' n' _ z => cp_x z) (cp_k (fun p pR pF => ?_))
  refine sw_pop (pc' := 1910) rfl dL_law_1909 rfl ?_
  refine sw_aload_n (pc' := 1911) rfl dL_law_1910 rfl ?_
  obtain ⟨ρ, τ, hM, hA⟩ := hQ.fr (fun i a b => pF i (by omega) (by omega))
  refine sw_V (M' := MX5_knock) (d' := d - 1) (bc' := 0) (bs' := 0) (ci := 6) (as := []) dL_law_1911 w_1471 ok_X5_knock (q_knock hM hA) hM.ob rfl (by omega) (Nat.le_of_ble_eq_true rfl) (Nat.zero_le _) (Nat.zero_le _) (fun E h' n' _ z => rp_x z) (rp_k (fun u uρ uτ uM uA uF => ?_))
  refine sw_pop (pc' := 1915) rfl dL_law_1914 rfl ?_
  refine sw_goto (tgt := 1944) dL_law_1915 (by decide +kernel) ?_
  have J : LI L xs u n (knU σ) (N + 12) := ⟨pR.frT (fun i hi => uF i (by omega) (by omega)), ⟨_, _, _, uM, uA⟩, hT.fr (fun i hi => (uF i (by omega) (by omega)).trans (pF i (by omega) (by omega))), hV.kn.mono (by omega), ⟨_, _, (uF 158 (by omega) (by omega)).trans ((pF 158 (by omega) (by omega)).trans hO)⟩, (uF 0 (by omega) (by omega)).trans ((pF 0 (by omega) (by omega)).trans hs), by omega⟩
  exact SW.pick [0, 1, 2, 3, 4] rfl ((K u n _ (by omega) J).bud (by omega) (by omega))
theorem lc_42 {L : Nat} {xs : Nat → Int32} {h : AH} {n i N d bc bs : Nat} {σ : CS} {Post : ARes → AH → Nat → Prop} (hI : LI L xs h n σ N) (hN : N < 2 ^ 31) (hL : L ≤ 3072) (hi : i + 6 ≤ L) (hd : 20 ≤ d) (h1 : 380 ≤ bc) (h2 : 4500 ≤ bs) (K : ∀ (h' : AH) (n' : Nat) (σ' : CS), n ≤ n' → LI L xs h' n' σ' (N + 12) → SW SR0 ML_law d (bc - 380) (bs - 4500) 1944 [(4, .int (nI i)), (3, .ref 158), (2, .ref 135), (1, .ref 100), (0, .ref 0)] [] h' n' Post) : SW SR0 ML_law d bc bs 1918 [(4, .int (nI i)), (3, .ref 158), (2, .ref 135), (1, .ref 100), (0, .ref 0)] [] h n Post := by
  obtain ⟨hR, ⟨th, hQ⟩, hT, hV, ⟨w, s, hO⟩, hs, hn⟩ := hI
  refine sw_aload_n (pc' := 1919) rfl dL_law_1918 rfl ?_
  refine sw_V (M' := MX3_isSound) (d' := d - 1) (bc' := 0) (bs' := 0) (ci := 4) (as := []) dL_law_1919 w_176 ok_X3_isSound (m_isSound hR (by omega)) hR.1 rfl (by omega) (Nat.le_of_ble_eq_true rfl) (Nat.zero_le _) (Nat.zero_le _) (fun E h' n' _ z => cp_x z) (cp_k (fun p pR pF => ?_))
  refine sw_pop (pc' := 1923) rfl dL_law_1922 rfl ?_
  refine sw_aload_n (pc' := 1924) rfl dL_law_1923 rfl ?_
  obtain ⟨ρ, τ, hM, hA⟩ := hQ.fr (fun i a b => pF i (by omega) (by omega))
  refine sw_V (M' := MX5_isSound) (d' := d - 1) (bc' := 0) (bs' := 0) (ci := 6) (as := []) dL_law_1924 w_1475 ok_X5_isSound (q_isSound hM hA) hM.ob rfl (by omega) (Nat.le_of_ble_eq_true rfl) (Nat.zero_le _) (Nat.zero_le _) (fun E h' n' _ z => rp_x z) (rp_k (fun u uρ uτ uM uA uF => ?_))
  refine sw_pop (pc' := 1928) rfl dL_law_1927 rfl ?_
  refine sw_goto (tgt := 1944) dL_law_1928 (by decide +kernel) ?_
  have J : LI L xs u n σ (N + 12) := ⟨pR.frT (fun i hi => uF i (by omega) (by omega)), ⟨_, _, _, uM, uA⟩, hT.fr (fun i hi => (uF i (by omega) (by omega)).trans (pF i (by omega) (by omega))), hV.mono (by omega), ⟨_, _, (uF 158 (by omega) (by omega)).trans ((pF 158 (by omega) (by omega)).trans hO)⟩, (uF 0 (by omega) (by omega)).trans ((pF 0 (by omega) (by omega)).trans hs), by omega⟩
  exact SW.pick [0, 1, 2, 3, 4] rfl ((K u n _ (by omega) J).bud (by omega) (by omega))
theorem lc_43 {L : Nat} {xs : Nat → Int32} {h : AH} {n i N d bc bs : Nat} {σ : CS} {Post : ARes → AH → Nat → Prop} (hI : LI L xs h n σ N) (hN : N < 2 ^ 31) (hL : L ≤ 3072) (hi : i + 6 ≤ L) (hd : 20 ≤ d) (h1 : 380 ≤ bc) (h2 : 4500 ≤ bs) (K : ∀ (h' : AH) (n' : Nat) (σ' : CS), n ≤ n' → LI L xs h' n' σ' (N + 12) → SW SR0 ML_law d (bc - 380) (bs - 4500) 1944 [(4, .int (nI i)), (3, .ref 158), (2, .ref 135), (1, .ref 100), (0, .ref 0)] [] h' n' Post) : SW SR0 ML_law d bc bs 1931 [(4, .int (nI i)), (3, .ref 158), (2, .ref 135), (1, .ref 100), (0, .ref 0)] [] h n Post := by
  obtain ⟨hR, ⟨th, hQ⟩, hT, hV, ⟨w, s, hO⟩, hs, hn⟩ := hI
  refine sw_aload_n (pc' := 1932) rfl dL_law_1931 rfl ?_
  refine sw_V (M' := MX3_digest) (d' := d - 1) (bc' := 24) (bs' := 144) (ci := 4) (as := []) dL_law_1932 w_251 ok_X3_digest (m_digest hR (by omega) (Nat.le_refl _) (Nat.le_refl _)) hR.1 rfl (by omega) (Nat.le_of_ble_eq_true rfl) (by omega) (by omega) (fun E h' n' _ z => cp_x z) (cp_k (fun p pR pF => ?_))
  refine sw_pop2 (pc' := 1936) rfl dL_law_1935 rfl ?_
  refine sw_aload_n (pc' := 1937) rfl dL_law_1936 rfl ?_
  have hQ2 := hQ.fr (fun i a b => pF i (by omega) (by omega))
  obtain ⟨ρ, τ, hM, hA⟩ := id hQ2
  refine sw_V (M' := MX5_digest) (d' := d - 1) (bc' := 40) (bs' := 400) (ci := 6) (as := []) dL_law_1937 w_1479 ok_X5_digest (q_digest hQ2 (hV.iv hN) hV.sn hn (by omega) (Nat.le_refl _) (Nat.le_refl _)) hM.ob rfl (by omega) (Nat.le_of_ble_eq_true rfl) (by omega) (by omega) (fun E h' n' _ z => absurd z.1 (fun e => by cases e)) (dpc_k (fun u un uk uR uF => ?_))
  refine sw_pop2 (pc' := 1941) rfl dL_law_1940 rfl ?_
  refine sw_goto (tgt := 1944) dL_law_1941 (by decide +kernel) ?_
  have J : LI L xs u un σ (N + 12) := ⟨pR.frT (fun i hi => uF i (by omega) (by omega)), ⟨_, uR⟩, hT.fr (fun i hi => (uF i (by omega) (by omega)).trans (pF i (by omega) (by omega))), hV.mono (by omega), ⟨_, _, (uF 158 (by omega) (by omega)).trans ((pF 158 (by omega) (by omega)).trans hO)⟩, (uF 0 (by omega) (by omega)).trans ((pF 0 (by omega) (by omega)).trans hs), by omega⟩
  exact SW.pick [0, 1, 2, 3, 4] rfl ((K u un _ (by omega) J).bud (by omega) (by omega))
end
section
/-! 58.law -/
/-! the law -/
theorem and63 (x : Int32) : ∃ k, k < 64 ∧ x &&& 63 = nI k := by
  refine ⟨(x &&& 63).toBitVec.toNat, ?_, ?_⟩
  · rw [Int32.toBitVec_and]
    show (x.toBitVec &&& 63#32).toNat < 64
    rw [BitVec.toNat_and]
    exact Nat.lt_of_le_of_lt Nat.and_le_right (by decide +kernel)
  · apply Int32.toBitVec_inj.mp
    show _ = BitVec.ofNat 32 _
    rw [BitVec.ofNat_toNat, BitVec.setWidth_eq]
theorem sub6 {L i : Nat} (hL : L ≤ 3072) (hi : i ≤ 4000) : nI L - 6 < nI i ↔ L < i + 6 := by
  rw [Int32.lt_iff_toInt_lt, Int32.toInt_sub, show (nI L).toInt = (L : Int) from nI_toInt (by omega), show (nI i).toInt = (i : Int) from nI_toInt (by omega), show (6 : Int32).toInt = 6 from rfl, Int.bmod_eq_of_le (by omega) (by omega)]
  omega
theorem LI.up {L : Nat} {xs : Nat → Int32} {h : AH} {n N : Nat} {σ : CS} (hI : LI L xs h n σ N) : LI L xs h n σ (N + 12) := ⟨hI.1, hI.2.1, hI.2.2.1, hI.2.2.2.1.mono (by omega), hI.2.2.2.2⟩
theorem ll_loop {L d : Nat} {xs : Nat → Int32} {Post : ARes → AH → Nat → Prop} (hL : L ≤ 3072) (hd : 20 ≤ d) (hP : ∀ h n, Post (.inl (some (.int 1))) h n) (m : Nat) : ∀ (i n N bc bs : Nat) (h : AH) (σ : CS), LI L xs h n σ N → N + 12 * m < 2 ^ 31 → L < i + 6 * m + 6 → i ≤ L + 6 → 380 * m ≤ bc → 4500 * m ≤ bs → SW SR0 ML_law d bc bs 27 [(4, .int (nI i)), (3, .ref 158), (2, .ref 135), (1, .ref 100), (0, .ref 0)] [] h n Post := by
  induction m with
  | zero =>
    intro i n N bc bs h σ hI hN hm hi h1 h2
    have hs := hI.2.2.2.2.2.1
    refine sw_iload (pc' := 29) rfl dL_law_27 rfl ?_
    refine sw_aload_n (pc' := 30) rfl dL_law_29 rfl ?_
    refine sw_alen (pc' := 31) rfl dL_law_30 hs (by decide +kernel) (Or.inr ⟨by decide +kernel, _, rfl⟩) ?_
    refine sw_bipush (pc' := 33) (v := 6) rfl dL_law_31 (by decide +kernel) ?_
    refine sw_isub (pc' := 34) rfl dL_law_33 ?_
    refine sw_icmp_gt (pc' := 37) (tgt := 1950) rfl dL_law_34 (by decide +kernel) (fun c34 => ?_) (fun c34 => ?_)
    · refine sw_iconst (pc' := 1951) (v := 1) rfl dL_law_1950 (by decide +kernel) ?_
      refine sw_ret (v := some _) ⟨dL_law_1951, _, rfl, rfl⟩ ?_
      exact hP _ _
    · exact absurd ((sub6 hL (by omega)).mpr (by omega)) c34
  | succ m ih =>
    intro i n N bc bs h σ hI hN hm hi h1 h2
    have hs := hI.2.2.2.2.2.1
    by_cases q : i + 6 ≤ L
    · have K : ∀ (h' : AH) (n' : Nat) (σ' : CS), n ≤ n' → LI L xs h' n' σ' (N + 12) → SW SR0 ML_law d (bc - 380) (bs - 4500) 1944 [(4, .int (nI i)), (3, .ref 158), (2, .ref 135), (1, .ref 100), (0, .ref 0)] [] h' n' Post := by
        intro h' n' σ' hn J
        have hs := J.2.2.2.2.2.1
        refine sw_iinc (pc' := 1947) (lv' := [(4, _), (3, _), (2, _), (1, _), (0, _)]) (v := nI (i + 6)) rfl dL_law_1944 rfl (nI_add i 6) (by decide +kernel) rfl ?_
        refine sw_goto (tgt := 27) dL_law_1947 (by decide +kernel) ?_
        exact ih (i + 6) n' (N + 12) _ _ h' σ' J (by omega) (by omega) (by omega) (by omega) (by omega)
      refine sw_iload (pc' := 29) rfl dL_law_27 rfl ?_
      refine sw_aload_n (pc' := 30) rfl dL_law_29 rfl ?_
      refine sw_alen (pc' := 31) rfl dL_law_30 hs (by decide +kernel) (Or.inr ⟨by decide +kernel, _, rfl⟩) ?_
      refine sw_bipush (pc' := 33) (v := 6) rfl dL_law_31 (by decide +kernel) ?_
      refine sw_isub (pc' := 34) rfl dL_law_33 ?_
      refine sw_icmp_gt (pc' := 37) (tgt := 1950) rfl dL_law_34 (by decide +kernel) (fun c34 => ?_) (fun c34 => ?_)
      · exact absurd ((sub6 hL (by omega)).mp c34) (by omega)
      · refine sw_aload_n (pc' := 38) rfl dL_law_37 rfl ?_
        refine sw_iload (pc' := 40) rfl dL_law_38 rfl ?_
        refine sw_iald (j := i) (pc' := 41) rfl dL_law_40 hs rfl (by omega) (by omega) ?_
        refine sw_bipush (pc' := 43) (v := 63) rfl dL_law_41 (by decide +kernel) ?_
        refine sw_iand (pc' := 44) rfl dL_law_43 ?_
        obtain ⟨k, hk, ek⟩ := and63 (xs i)
        rw [ek]
        by_cases k9 : k < 44
        · rcases (show k = 0 ∨ k = 1 ∨ k = 2 ∨ k = 3 ∨ k = 4 ∨ k = 5 ∨ k = 6 ∨ k = 7 ∨ k = 8 ∨ k = 9 ∨ k = 10 ∨ k = 11 ∨ k = 12 ∨ k = 13 ∨ k = 14 ∨ k = 15 ∨ k = 16 ∨ k = 17 ∨ k = 18 ∨ k = 19 ∨ k = 20 ∨ k = 21 ∨ k = 22 ∨ k = 23 ∨ k = 24 ∨ k = 25 ∨ k = 26 ∨ k = 27 ∨ k = 28 ∨ k = 29 ∨ k = 30 ∨ k = 31 ∨ k = 32 ∨ k = 33 ∨ k = 34 ∨ k = 35 ∨ k = 36 ∨ k = 37 ∨ k = 38 ∨ k = 39 ∨ k = 40 ∨ k = 41 ∨ k = 42 ∨ k = 43 by omega) with rfl | rfl | rfl | rfl | rfl | rfl | rfl | rfl | rfl | rfl | rfl | rfl | rfl | rfl | rfl | rfl | rfl | rfl | rfl | rfl | rfl | rfl | rfl | rfl | rfl | rfl | rfl | rfl | rfl | rfl | rfl | rfl | rfl | rfl | rfl | rfl | rfl | rfl | rfl | rfl | rfl | rfl | rfl | rfl
          · refine sw_tableIn (tgt := 236) dL_law_44 (by decide +kernel) (by decide +kernel) (by rfl) (by decide +kernel) ?_
            exact lc_0 hI (by omega) hL q hd (by omega) (by omega) K
          · refine sw_tableIn (tgt := 305) dL_law_44 (by decide +kernel) (by decide +kernel) (by rfl) (by decide +kernel) ?_
            exact lc_1 hI (by omega) hL q hd (by omega) (by omega) K
          · refine sw_tableIn (tgt := 381) dL_law_44 (by decide +kernel) (by decide +kernel) (by rfl) (by decide +kernel) ?_
            exact lc_2 hI (by omega) hL q hd (by omega) (by omega) K
          · refine sw_tableIn (tgt := 421) dL_law_44 (by decide +kernel) (by decide +kernel) (by rfl) (by decide +kernel) ?_
            exact lc_3 hI (by omega) hL q hd (by omega) (by omega) K
          · refine sw_tableIn (tgt := 449) dL_law_44 (by decide +kernel) (by decide +kernel) (by rfl) (by decide +kernel) ?_
            exact lc_4 hI (by omega) hL q hd (by omega) (by omega) K
          · refine sw_tableIn (tgt := 489) dL_law_44 (by decide +kernel) (by decide +kernel) (by rfl) (by decide +kernel) ?_
            exact lc_5 hI (by omega) hL q hd (by omega) (by omega) K
          · refine sw_tableIn (tgt := 529) dL_law_44 (by decide +kernel) (by decide +kernel) (by rfl) (by decide +kernel) ?_
            exact lc_6 hI (by omega) hL q hd (by omega) (by omega) K
          · refine sw_tableIn (tgt := 581) dL_law_44 (by decide +kernel) (by decide +kernel) (by rfl) (by decide +kernel) ?_
            exact lc_7 hI (by omega) hL q hd (by omega) (by omega) K
          · refine sw_tableIn (tgt := 633) dL_law_44 (by decide +kernel) (by decide +kernel) (by rfl) (by decide +kernel) ?_
            exact lc_8 hI (by omega) hL q hd (by omega) (by omega) K
          · refine sw_tableIn (tgt := 673) dL_law_44 (by decide +kernel) (by decide +kernel) (by rfl) (by decide +kernel) ?_
            exact lc_9 hI (by omega) hL q hd (by omega) (by omega) K
          · refine sw_tableIn (tgt := 701) dL_law_44 (by decide +kernel) (by decide +kernel) (by rfl) (by decide +kernel) ?_
            exact lc_10 hI (by omega) hL q hd (by omega) (by omega) K
          · refine sw_tableIn (tgt := 741) dL_law_44 (by decide +kernel) (by decide +kernel) (by rfl) (by decide +kernel) ?_
            exact lc_11 hI (by omega) hL q hd (by omega) (by omega) K
          · refine sw_tableIn (tgt := 793) dL_law_44 (by decide +kernel) (by decide +kernel) (by rfl) (by decide +kernel) ?_
            exact lc_12 hI (by omega) hL q hd (by omega) (by omega) K
          · refine sw_tableIn (tgt := 833) dL_law_44 (by decide +kernel) (by decide +kernel) (by rfl) (by decide +kernel) ?_
            exact lc_13 hI (by omega) hL q hd (by omega) (by omega) K
          · refine sw_tableIn (tgt := 885) dL_law_44 (by decide +kernel) (by decide +kernel) (by rfl) (by decide +kernel) ?_
            exact lc_14 hI (by omega) hL q hd (by omega) (by omega) K
          · refine sw_tableIn (tgt := 937) dL_law_44 (by decide +kernel) (by decide +kernel) (by rfl) (by decide +kernel) ?_
            exact lc_15 hI (by omega) hL q hd (by omega) (by omega) K
          · refine sw_tableIn (tgt := 989) dL_law_44 (by decide +kernel) (by decide +kernel) (by rfl) (by decide +kernel) ?_
            exact lc_16 hI (by omega) hL q hd (by omega) (by omega) K
          · refine sw_tableIn (tgt := 1017) dL_law_44 (by decide +kernel) (by decide +kernel) (by rfl) (by decide +kernel) ?_
            exact lc_17 hI (by omega) hL q hd (by omega) (by omega) K
          · refine sw_tableIn (tgt := 1045) dL_law_44 (by decide +kernel) (by decide +kernel) (by rfl) (by decide +kernel) ?_
            exact lc_18 hI (by omega) hL q hd (by omega) (by omega) K
          · refine sw_tableIn (tgt := 1073) dL_law_44 (by decide +kernel) (by decide +kernel) (by rfl) (by decide +kernel) ?_
            exact lc_19 hI (by omega) hL q hd (by omega) (by omega) K
          · refine sw_tableIn (tgt := 1101) dL_law_44 (by decide +kernel) (by decide +kernel) (by rfl) (by decide +kernel) ?_
            exact lc_20 hI (by omega) hL q hd (by omega) (by omega) K
          · refine sw_tableIn (tgt := 1141) dL_law_44 (by decide +kernel) (by decide +kernel) (by rfl) (by decide +kernel) ?_
            exact lc_21 hI (by omega) hL q hd (by omega) (by omega) K
          · refine sw_tableIn (tgt := 1181) dL_law_44 (by decide +kernel) (by decide +kernel) (by rfl) (by decide +kernel) ?_
            exact lc_22 hI (by omega) hL q hd (by omega) (by omega) K
          · refine sw_tableIn (tgt := 1209) dL_law_44 (by decide +kernel) (by decide +kernel) (by rfl) (by decide +kernel) ?_
            exact lc_23 hI (by omega) hL q hd (by omega) (by omega) K
          · refine sw_tableIn (tgt := 1249) dL_law_44 (by decide +kernel) (by decide +kernel) (by rfl) (by decide +kernel) ?_
            exact lc_24 hI (by omega) hL q hd (by omega) (by omega) K
          · refine sw_tableIn (tgt := 1289) dL_law_44 (by decide +kernel) (by decide +kernel) (by rfl) (by decide +kernel) ?_
            exact lc_25 hI (by omega) hL q hd (by omega) (by omega) K
          · refine sw_tableIn (tgt := 1329) dL_law_44 (by decide +kernel) (by decide +kernel) (by rfl) (by decide +kernel) ?_
            exact lc_26 hI (by omega) hL q hd (by omega) (by omega) K
          · refine sw_tableIn (tgt := 1357) dL_law_44 (by decide +kernel) (by decide +kernel) (by rfl) (by decide +kernel) ?_
            exact lc_27 hI (by omega) hL q hd (by omega) (by omega) K
          · refine sw_tableIn (tgt := 1385) dL_law_44 (by decide +kernel) (by decide +kernel) (by rfl) (by decide +kernel) ?_
            exact lc_28 hI (by omega) hL q hd (by omega) (by omega) K
          · refine sw_tableIn (tgt := 1413) dL_law_44 (by decide +kernel) (by decide +kernel) (by rfl) (by decide +kernel) ?_
            exact lc_29 hI (by omega) hL q hd (by omega) (by omega) K
          · refine sw_tableIn (tgt := 1441) dL_law_44 (by decide +kernel) (by decide +kernel) (by rfl) (by decide +kernel) ?_
            exact lc_30 hI (by omega) hL q hd (by omega) (by omega) K
          · refine sw_tableIn (tgt := 1481) dL_law_44 (by decide +kernel) (by decide +kernel) (by rfl) (by decide +kernel) ?_
            exact lc_31 hI (by omega) hL q hd (by omega) (by omega) K
          · refine sw_tableIn (tgt := 1521) dL_law_44 (by decide +kernel) (by decide +kernel) (by rfl) (by decide +kernel) ?_
            exact lc_32 hI (by omega) hL q hd (by omega) (by omega) K
          · refine sw_tableIn (tgt := 1589) dL_law_44 (by decide +kernel) (by decide +kernel) (by rfl) (by decide +kernel) ?_
            exact lc_33 hI (by omega) hL q hd (by omega) (by omega) K
          · refine sw_tableIn (tgt := 1629) dL_law_44 (by decide +kernel) (by decide +kernel) (by rfl) (by decide +kernel) ?_
            exact lc_34 hI (by omega) hL q hd (by omega) (by omega) K
          · refine sw_tableIn (tgt := 1685) dL_law_44 (by decide +kernel) (by decide +kernel) (by rfl) (by decide +kernel) ?_
            exact lc_35 hI (by omega) hL q hd (by omega) (by omega) K
          · refine sw_tableIn (tgt := 1713) dL_law_44 (by decide +kernel) (by decide +kernel) (by rfl) (by decide +kernel) ?_
            exact lc_36 hI (by omega) hL q hd (by omega) (by omega) K
          · refine sw_tableIn (tgt := 1753) dL_law_44 (by decide +kernel) (by decide +kernel) (by rfl) (by decide +kernel) ?_
            exact lc_37 hI (by omega) hL q hd (by omega) (by omega) K
          · refine sw_tableIn (tgt := 1809) dL_law_44 (by decide +kernel) (by decide +kernel) (by rfl) (by decide +kernel) ?_
            exact lc_38 hI (by omega) hL q hd (by omega) (by omega) K
          · refine sw_tableIn (tgt := 1837) dL_law_44 (by decide +kernel) (by decide +kernel) (by rfl) (by decide +kernel) ?_
            exact lc_39 hI (by omega) hL q hd (by omega) (by omega) K
          · refine sw_tableIn (tgt := 1877) dL_law_44 (by decide +kernel) (by decide +kernel) (by rfl) (by decide +kernel) ?_
            exact lc_40 hI (by omega) hL q hd (by omega) (by omega) K
          · refine sw_tableIn (tgt := 1905) dL_law_44 (by decide +kernel) (by decide +kernel) (by rfl) (by decide +kernel) ?_
            exact lc_41 hI (by omega) hL q hd (by omega) (by omega) K
          · refine sw_tableIn (tgt := 1918) dL_law_44 (by decide +kernel) (by decide +kernel) (by rfl) (by decide +kernel) ?_
            exact lc_42 hI (by omega) hL q hd (by omega) (by omega) K
          · refine sw_tableIn (tgt := 1931) dL_law_44 (by decide +kernel) (by decide +kernel) (by rfl) (by decide +kernel) ?_
            exact lc_43 hI (by omega) hL q hd (by omega) (by omega) K
        · refine sw_tableOut (tgt := 1944) dL_law_44 (Or.inr (by rw [nI_toInt (by omega)]; omega)) (by decide +kernel) ?_
          exact (K h n σ (Nat.le_refl _) hI.up).bud (by omega) (by omega)
    · refine sw_iload (pc' := 29) rfl dL_law_27 rfl ?_
      refine sw_aload_n (pc' := 30) rfl dL_law_29 rfl ?_
      refine sw_alen (pc' := 31) rfl dL_law_30 hs (by decide +kernel) (Or.inr ⟨by decide +kernel, _, rfl⟩) ?_
      refine sw_bipush (pc' := 33) (v := 6) rfl dL_law_31 (by decide +kernel) ?_
      refine sw_isub (pc' := 34) rfl dL_law_33 ?_
      refine sw_icmp_gt (pc' := 37) (tgt := 1950) rfl dL_law_34 (by decide +kernel) (fun c34 => ?_) (fun c34 => ?_)
      · refine sw_iconst (pc' := 1951) (v := 1) rfl dL_law_1950 (by decide +kernel) ?_
        refine sw_ret (v := some _) ⟨dL_law_1951, _, rfl, rfl⟩ ?_
        exact hP _ _
      · exact absurd ((sub6 hL (by omega)).mpr (by omega)) c34
theorem icl_k {A : Nat → AH → Option Value → Prop} {h : AH} {n0 : Nat} (k : ∀ h', RC h' s0 → (∀ i, i < 100 → h' i = h i) → A 135 h' none) : ∀ (v : Option Value) (h' : AH) (n' : Nat), n0 ≤ n' → IC h (.inl v) h' n' → A n' h' v := by
  rintro v h' n' - ⟨e, rfl, g1, g2⟩
  cases e
  exact k h' g1 g2
theorem imo_k {A : Nat → AH → Option Value → Prop} {h : AH} {n0 : Nat} (k : ∀ h', RMo h' s0 0 → (∀ i, i < 135 → h' i = h i) → A 158 h' none) : ∀ (v : Option Value) (h' : AH) (n' : Nat), n0 ≤ n' → IM h (.inl v) h' n' → A n' h' v := by
  rintro v h' n' - ⟨e, rfl, g1, g2⟩
  cases e
  exact k h' g1 g2
theorem law_all {h : AH} {L d bc bs : Nat} {xs : Nat → Int32} {Post : ARes → AH → Nat → Prop} (hL : L ≤ 3072) (hs : h 0 = .inl (0, L, .inl xs)) (hT : TXT h) (hK : ∀ k, 1 ≤ k → k ≤ 5 → KdF h k) (hd : 20 ≤ d) (h1 : 195000 ≤ bc) (h2 : 2310000 ≤ bs) (hP : ∀ h n, Post (.inl (some (.int 1))) h n) : SW SR0 ML_law d bc bs 0 [(0, .ref 0)] [] h 100 Post := by
  refine sw_new (ci := 4) (pc' := 3) rfl dL_law_0 (by decide +kernel) w_63 w_64 w_39 (by omega) (Nat.le_trans (Nat.le_of_ble_eq_true rfl) (show 7 ≤ _ by omega)) ?_
  refine sw_nm (fun g1 eg1 => ?_)
  have zg1 := (congrFun eg1 100).trans (up_s (h := h) (i := 100))
  refine sw_dup (pc' := 4) rfl dL_law_3 rfl ?_
  have f4 : FN 4 = 7 := rfl
  have f5 : FN 5 = 2 := rfl
  have f6 : FN 6 = 14 := rfl
  refine sw_I (M' := MX3_init) (d' := d - 1) (bc' := 40) (bs' := 400) (as := []) dL_law_4 w_65 ok_X3_init (m_initClass zg1 (fun k a b => ⟨(hK k a b).1, ((congrFun eg1 k).trans ((up_n (by omega)).trans (rfl))).trans (hK k a b).2⟩) (by omega) (Nat.le_refl _) (Nat.le_refl _)) (by omega) (Nat.le_of_ble_eq_true rfl) (by omega) (by omega) (fun E h' n' _ z => absurd z.1 (fun e => by cases e)) (icl_k (fun p pR pF => ?_))
  have pG : ∀ i, i < 100 → p i = h i := fun i hi => (pF i hi).trans ((congrFun eg1 i).trans ((up_n (by omega)).trans (rfl)))
  refine sw_astore_n (pc' := 8) (lv' := [(1, _), (0, _)]) rfl dL_law_7 (by decide +kernel) rfl ?_
  refine sw_new (ci := 6) (pc' := 11) rfl dL_law_8 (by decide +kernel) w_1105 w_1106 w_44 (by omega) (Nat.le_trans (Nat.le_of_ble_eq_true rfl) (show 14 ≤ _ by omega)) ?_
  refine sw_nm (fun g2 eg2 => ?_)
  have zg2 := (congrFun eg2 135).trans (up_s (h := p) (i := 135))
  refine sw_dup (pc' := 12) rfl dL_law_11 rfl ?_
  refine sw_I (M' := MX5_init) (d' := d - 1) (bc' := 30) (bs' := 300) (as := []) dL_law_12 w_1107 ok_X5_init (q_initModel zg2 (Nat.le_refl _) (Nat.le_refl _)) (by omega) (Nat.le_of_ble_eq_true rfl) (by omega) (by omega) (fun E h' n' _ z => absurd z.1 (fun e => by cases e)) (imo_k (fun q qR qF => ?_))
  have qG : ∀ i, i < 135 → q i = p i := fun i hi => (qF i hi).trans ((congrFun eg2 i).trans ((up_n (by omega)).trans (rfl)))
  refine sw_astore_n (pc' := 16) (lv' := [(2, _), (1, _), (0, _)]) rfl dL_law_15 (by decide +kernel) rfl ?_
  refine sw_new (ci := 5) (pc' := 19) rfl dL_law_16 (by decide +kernel) w_379 w_380 w_45 (by omega) (Nat.le_trans (Nat.le_of_ble_eq_true rfl) (show 2 ≤ _ by omega)) ?_
  refine sw_nm (fun g3 eg3 => ?_)
  have zg3 := (congrFun eg3 158).trans (up_s (h := q) (i := 158))
  refine sw_dup (pc' := 20) rfl dL_law_19 rfl ?_
  refine sw_callIN (M' := MX4_init) (d' := d - 1) (bc' := 0) (bs' := 0) (as := []) dL_law_20 v_343 ok_X4_init.2.2.1 ok_X4_init.1.1 ok_X4_init.1.2.1 ok_X4_init.2.2.2.1 ok_X4_init.2.2.2.2 ok_X4_init.1.2.2.1 ok_X4_init.1.2.2.2.1 ok_X4_init.2.1 (by omega) ok_X4_init.1.2.2.2.2 m_initOut (Nat.le_of_ble_eq_true rfl) (Nat.zero_le _) (Nat.zero_le _) (det_k ?_) (fun E h' n' _ z => det_x z)
  have J : LI L xs g3 159 s0 0 := ⟨pR.frT (fun i hi => ((congrFun eg3 i).trans ((up_n (by omega)).trans (rfl))).trans (qG i hi)), ⟨0, qR.fr (fun i a b => (congrFun eg3 i).trans ((up_n (by omega)).trans (rfl)))⟩, hT.fr (fun i hi => ((congrFun eg3 i).trans ((up_n (by omega)).trans (rfl))).trans ((qG i (by omega)).trans (pG i hi))), cl_s0 0, ⟨0, .null, zg3⟩, ((congrFun eg3 0).trans ((up_n (by omega)).trans (rfl))).trans ((qG 0 (by decide +kernel)).trans ((pG 0 (by decide +kernel)).trans hs)), Nat.le_refl _⟩
  refine sw_astore_n (pc' := 24) (lv' := [(3, _), (2, _), (1, _), (0, _)]) rfl dL_law_23 (by decide +kernel) rfl ?_
  refine sw_iconst (pc' := 25) (v := 0) rfl dL_law_24 (by decide +kernel) ?_
  refine sw_istore (pc' := 27) (lv' := [(4, _), (3, _), (2, _), (1, _), (0, _)]) rfl dL_law_25 (by decide +kernel) rfl ?_
  exact SW.pick [0, 1, 2, 3, 4] rfl ((ll_loop hL hd hP (L / 6) 0 159 0 194560 2304000 _ s0 J (by omega) (by omega) (by omega) (by omega) (by omega)).bud (by omega) (by omega))
end
section
/-! 59.words -/
/-! what the Statement says of the start -/
theorem bl {a b : Cond} {A : Array Value} {s : State} (h : (Cond.and a b).before A s = true) : a.before A s = true := (Bool.and_eq_true_iff.mp (by rw [← Cond.before_and]; exact h)).1
theorem br {a b : Cond} {A : Array Value} {s : State} (h : (Cond.and a b).before A s = true) : b.before A s = true := (Bool.and_eq_true_iff.mp (by rw [← Cond.before_and]; exact h)).2
def nmK : List String := ["ROW", "RISING", "KEPT", "QUEUE", "TABLE"]
def FK : List (String × String × String × List Int32) := [("Overwalks$Kind", "hasPlaces", "Z", [1, 0, 0, 0, 0]), ("Overwalks$Kind", "takesNothings", "Z", [1, 0, 1, 0, 0]), ("Overwalks$Kind", "hasEachOnce", "Z", [0, 1, 1, 0, 0])]
theorem kd_x {A : Array Value} {s : State} (h : narrow_1.before A s = true) : ∀ i, i < nmK.length → (Cond.exactly (.static "Overwalks$Kind" (nmK.getD i "") "LOverwalks$Kind;") "Overwalks$Kind").before A s = true := by
  intro i hi
  rcases (show i = 0 ∨ i = 1 ∨ i = 2 ∨ i = 3 ∨ i = 4 by have : i < 5 := hi; omega) with rfl | rfl | rfl | rfl | rfl
  · exact (br (br (bl (bl (bl (bl (bl (bl (bl (bl h))))))))))
  · exact (bl (bl (bl (br (bl (bl (bl (bl (bl (bl h))))))))))
  · exact (bl (br (br (br (bl (bl (bl (bl (bl (bl h))))))))))
  · exact (br (bl (br (bl (br (bl (bl (bl (bl (bl h))))))))))
  · exact (br (bl (br (br (br (bl (bl (bl (bl (bl h))))))))))
theorem kd_f0 {A : Array Value} {s : State} (h : narrow_1.before A s = true) : ∀ i, i < nmK.length → (Cond.eq (.field (.static "Overwalks$Kind" (nmK.getD i "") "LOverwalks$Kind;") "Overwalks$Kind" "hasPlaces" "Z") (.int (([1, 0, 0, 0, 0] : List Int32).getD i 0))).before A s = true := by
  intro i hi
  rcases (show i = 0 ∨ i = 1 ∨ i = 2 ∨ i = 3 ∨ i = 4 by have : i < 5 := hi; omega) with rfl | rfl | rfl | rfl | rfl
  · exact (br (bl (br (bl (bl (bl (bl (bl (bl (bl h))))))))))
  · exact (bl (br (bl (br (bl (bl (bl (bl (bl (bl h))))))))))
  · exact (bl (bl (bl (bl (br (bl (bl (bl (bl (bl h))))))))))
  · exact (br (br (br (bl (br (bl (bl (bl (bl (bl h))))))))))
  · exact (br (br (br (br (br (bl (bl (bl (bl (bl h))))))))))
theorem kd_f1 {A : Array Value} {s : State} (h : narrow_1.before A s = true) : ∀ i, i < nmK.length → (Cond.eq (.field (.static "Overwalks$Kind" (nmK.getD i "") "LOverwalks$Kind;") "Overwalks$Kind" "takesNothings" "Z") (.int (([1, 0, 1, 0, 0] : List Int32).getD i 0))).before A s = true := by
  intro i hi
  rcases (show i = 0 ∨ i = 1 ∨ i = 2 ∨ i = 3 ∨ i = 4 by have : i < 5 := hi; omega) with rfl | rfl | rfl | rfl | rfl
  · exact (bl (br (br (bl (bl (bl (bl (bl (bl (bl h))))))))))
  · exact (br (br (bl (br (bl (bl (bl (bl (bl (bl h))))))))))
  · exact (br (bl (bl (bl (br (bl (bl (bl (bl (bl h))))))))))
  · exact (bl (bl (bl (br (br (bl (bl (bl (bl (bl h))))))))))
  · exact (bl (bl (bl (bl (br (bl (bl (bl (bl h)))))))))
theorem kd_f2 {A : Array Value} {s : State} (h : narrow_1.before A s = true) : ∀ i, i < nmK.length → (Cond.eq (.field (.static "Overwalks$Kind" (nmK.getD i "") "LOverwalks$Kind;") "Overwalks$Kind" "hasEachOnce" "Z") (.int (([0, 1, 1, 0, 0] : List Int32).getD i 0))).before A s = true := by
  intro i hi
  rcases (show i = 0 ∨ i = 1 ∨ i = 2 ∨ i = 3 ∨ i = 4 by have : i < 5 := hi; omega) with rfl | rfl | rfl | rfl | rfl
  · exact (br (br (br (bl (bl (bl (bl (bl (bl (bl h))))))))))
  · exact (bl (bl (br (br (bl (bl (bl (bl (bl (bl h))))))))))
  · exact (bl (br (bl (bl (br (bl (bl (bl (bl (bl h))))))))))
  · exact (br (bl (bl (br (br (bl (bl (bl (bl (bl h))))))))))
  · exact (bl (br (bl (bl (bl (br (bl (bl (bl (bl h))))))))))
theorem kd_f {A : Array Value} {s : State} (h : narrow_1.before A s = true) : ∀ q ∈ FK, ∀ i, i < nmK.length → (Cond.eq (.field (.static "Overwalks$Kind" (nmK.getD i "") "LOverwalks$Kind;") q.1 q.2.1 q.2.2.1) (.int (q.2.2.2.getD i 0))).before A s = true := by
  intro q hq
  rcases List.mem_cons.mp hq with rfl | hq
  · exact kd_f0 h
  rcases List.mem_cons.mp hq with rfl | hq
  · exact kd_f1 h
  rcases List.mem_singleton.mp hq with rfl
  exact kd_f2 h
theorem kd_d {A : Array Value} {s : State} (h : narrow_1.before A s = true) : ∀ i j, i < nmK.length → j < nmK.length → i ≠ j → (Cond.not (.eq (.static "Overwalks$Kind" (nmK.getD i "") "LOverwalks$Kind;") (.static "Overwalks$Kind" (nmK.getD j "") "LOverwalks$Kind;"))).before A s = true ∨ (Cond.not (.eq (.static "Overwalks$Kind" (nmK.getD j "") "LOverwalks$Kind;") (.static "Overwalks$Kind" (nmK.getD i "") "LOverwalks$Kind;"))).before A s = true := by
  intro i j hi hj hne
  rcases (show i = 0 ∨ i = 1 ∨ i = 2 ∨ i = 3 ∨ i = 4 by have : i < 5 := hi; omega) with rfl | rfl | rfl | rfl | rfl <;> rcases (show j = 0 ∨ j = 1 ∨ j = 2 ∨ j = 3 ∨ j = 4 by have : j < 5 := hj; omega) with rfl | rfl | rfl | rfl | rfl
  · exact absurd rfl hne
  · exact Or.inl (br (bl (br (br (bl (bl (bl (bl (bl (bl h))))))))))
  · exact Or.inl (br (br (bl (bl (br (bl (bl (bl (bl (bl h))))))))))
  · exact Or.inl (bl (br (bl (br (br (bl (bl (bl (bl (bl h))))))))))
  · exact Or.inl (br (br (bl (bl (bl (br (bl (bl (bl (bl h))))))))))
  · exact Or.inr (br (bl (br (br (bl (bl (bl (bl (bl (bl h))))))))))
  · exact absurd rfl hne
  · exact Or.inl (bl (bl (br (bl (br (bl (bl (bl (bl (bl h))))))))))
  · exact Or.inl (br (br (bl (br (br (bl (bl (bl (bl (bl h))))))))))
  · exact Or.inl (bl (bl (br (bl (bl (br (bl (bl (bl (bl h))))))))))
  · exact Or.inr (br (br (bl (bl (br (bl (bl (bl (bl (bl h))))))))))
  · exact Or.inr (bl (bl (br (bl (br (bl (bl (bl (bl (bl h))))))))))
  · exact absurd rfl hne
  · exact Or.inl (bl (bl (br (br (br (bl (bl (bl (bl (bl h))))))))))
  · exact Or.inl (br (bl (br (bl (bl (br (bl (bl (bl (bl h))))))))))
  · exact Or.inr (bl (br (bl (br (br (bl (bl (bl (bl (bl h))))))))))
  · exact Or.inr (br (br (bl (br (br (bl (bl (bl (bl (bl h))))))))))
  · exact Or.inr (bl (bl (br (br (br (bl (bl (bl (bl (bl h))))))))))
  · exact absurd rfl hne
  · exact Or.inl (bl (br (br (bl (bl (br (bl (bl (bl (bl h))))))))))
  · exact Or.inr (br (br (bl (bl (bl (br (bl (bl (bl (bl h))))))))))
  · exact Or.inr (bl (bl (br (bl (bl (br (bl (bl (bl (bl h))))))))))
  · exact Or.inr (br (bl (br (bl (bl (br (bl (bl (bl (bl h))))))))))
  · exact Or.inr (bl (br (br (bl (bl (br (bl (bl (bl (bl h))))))))))
  · exact absurd rfl hne
theorem kd_l : ∀ i, i < nmK.length → Cond.laysStatic "Overwalks$Kind" (nmK.getD i "") "LOverwalks$Kind;" ∈ tables_1 := by decide +kernel
def tmD : Term := .static "java/lang/Integer" "DigitTens" "[B"
def tmO : Term := .static "java/lang/Integer" "DigitOnes" "[B"
theorem dg_t0 {A : Array Value} {s : State} (h : narrow_1.before A s = true) : ∀ i, i < 10 → (Cond.eq (.elem tmD (.int (Int32.ofNat (0 + i)))) (.int (Int32.ofNat (48 + 0)))).before A s = true := by
  intro i hi
  rcases (show i = 0 ∨ i = 1 ∨ i = 2 ∨ i = 3 ∨ i = 4 ∨ i = 5 ∨ i = 6 ∨ i = 7 ∨ i = 8 ∨ i = 9 by omega) with rfl | rfl | rfl | rfl | rfl | rfl | rfl | rfl | rfl | rfl
  · exact (bl (br (bl (br (br (bl (bl (br (bl (bl h))))))))))
  · exact (br (br (bl (br (br (bl (bl (br (bl (bl h))))))))))
  · exact (bl (bl (br (br (br (bl (bl (br (bl (bl h))))))))))
  · exact (br (bl (br (br (br (bl (bl (br (bl (bl h))))))))))
  · exact (bl (br (br (br (br (bl (bl (br (bl (bl h))))))))))
  · exact (br (br (br (br (br (bl (bl (br (bl (bl h))))))))))
  · exact (bl (bl (bl (bl (br (bl (br (bl (bl h)))))))))
  · exact (bl (br (bl (bl (bl (br (bl (br (bl (bl h))))))))))
  · exact (br (br (bl (bl (bl (br (bl (br (bl (bl h))))))))))
  · exact (bl (bl (br (bl (bl (br (bl (br (bl (bl h))))))))))
theorem dg_t1 {A : Array Value} {s : State} (h : narrow_1.before A s = true) : ∀ i, i < 10 → (Cond.eq (.elem tmD (.int (Int32.ofNat (10 + i)))) (.int (Int32.ofNat (48 + 1)))).before A s = true := by
  intro i hi
  rcases (show i = 0 ∨ i = 1 ∨ i = 2 ∨ i = 3 ∨ i = 4 ∨ i = 5 ∨ i = 6 ∨ i = 7 ∨ i = 8 ∨ i = 9 by omega) with rfl | rfl | rfl | rfl | rfl | rfl | rfl | rfl | rfl | rfl
  · exact (br (bl (br (bl (bl (br (bl (br (bl (bl h))))))))))
  · exact (bl (br (br (bl (bl (br (bl (br (bl (bl h))))))))))
  · exact (br (br (br (bl (bl (br (bl (br (bl (bl h))))))))))
  · exact (bl (bl (bl (br (bl (br (bl (br (bl (bl h))))))))))
  · exact (br (bl (bl (br (bl (br (bl (br (bl (bl h))))))))))
  · exact (bl (br (bl (br (bl (br (bl (br (bl (bl h))))))))))
  · exact (br (br (bl (br (bl (br (bl (br (bl (bl h))))))))))
  · exact (bl (bl (br (br (bl (br (bl (br (bl (bl h))))))))))
  · exact (br (bl (br (br (bl (br (bl (br (bl (bl h))))))))))
  · exact (bl (br (br (br (bl (br (bl (br (bl (bl h))))))))))
theorem dg_t2 {A : Array Value} {s : State} (h : narrow_1.before A s = true) : ∀ i, i < 10 → (Cond.eq (.elem tmD (.int (Int32.ofNat (20 + i)))) (.int (Int32.ofNat (48 + 2)))).before A s = true := by
  intro i hi
  rcases (show i = 0 ∨ i = 1 ∨ i = 2 ∨ i = 3 ∨ i = 4 ∨ i = 5 ∨ i = 6 ∨ i = 7 ∨ i = 8 ∨ i = 9 by omega) with rfl | rfl | rfl | rfl | rfl | rfl | rfl | rfl | rfl | rfl
  · exact (br (br (br (br (bl (br (bl (br (bl (bl h))))))))))
  · exact (bl (bl (bl (bl (br (br (bl (br (bl (bl h))))))))))
  · exact (br (bl (bl (bl (br (br (bl (br (bl (bl h))))))))))
  · exact (bl (br (bl (bl (br (br (bl (br (bl (bl h))))))))))
  · exact (br (br (bl (bl (br (br (bl (br (bl (bl h))))))))))
  · exact (bl (bl (br (bl (br (br (bl (br (bl (bl h))))))))))
  · exact (br (bl (br (bl (br (br (bl (br (bl (bl h))))))))))
  · exact (bl (br (br (bl (br (br (bl (br (bl (bl h))))))))))
  · exact (br (br (br (bl (br (br (bl (br (bl (bl h))))))))))
  · exact (bl (bl (bl (br (br (br (bl (br (bl (bl h))))))))))
theorem dg_t3 {A : Array Value} {s : State} (h : narrow_1.before A s = true) : ∀ i, i < 10 → (Cond.eq (.elem tmD (.int (Int32.ofNat (30 + i)))) (.int (Int32.ofNat (48 + 3)))).before A s = true := by
  intro i hi
  rcases (show i = 0 ∨ i = 1 ∨ i = 2 ∨ i = 3 ∨ i = 4 ∨ i = 5 ∨ i = 6 ∨ i = 7 ∨ i = 8 ∨ i = 9 by omega) with rfl | rfl | rfl | rfl | rfl | rfl | rfl | rfl | rfl | rfl
  · exact (br (bl (bl (br (br (br (bl (br (bl (bl h))))))))))
  · exact (bl (br (bl (br (br (br (bl (br (bl (bl h))))))))))
  · exact (br (br (bl (br (br (br (bl (br (bl (bl h))))))))))
  · exact (bl (bl (br (br (br (br (bl (br (bl (bl h))))))))))
  · exact (br (bl (br (br (br (br (bl (br (bl (bl h))))))))))
  · exact (bl (br (br (br (br (br (bl (br (bl (bl h))))))))))
  · exact (br (br (br (br (br (br (bl (br (bl (bl h))))))))))
  · exact (bl (bl (bl (bl (bl (br (br (bl (bl h)))))))))
  · exact (bl (br (bl (bl (bl (bl (br (br (bl (bl h))))))))))
  · exact (br (br (bl (bl (bl (bl (br (br (bl (bl h))))))))))
theorem dg_t4 {A : Array Value} {s : State} (h : narrow_1.before A s = true) : ∀ i, i < 10 → (Cond.eq (.elem tmD (.int (Int32.ofNat (40 + i)))) (.int (Int32.ofNat (48 + 4)))).before A s = true := by
  intro i hi
  rcases (show i = 0 ∨ i = 1 ∨ i = 2 ∨ i = 3 ∨ i = 4 ∨ i = 5 ∨ i = 6 ∨ i = 7 ∨ i = 8 ∨ i = 9 by omega) with rfl | rfl | rfl | rfl | rfl | rfl | rfl | rfl | rfl | rfl
  · exact (bl (bl (br (bl (bl (bl (br (br (bl (bl h))))))))))
  · exact (br (bl (br (bl (bl (bl (br (br (bl (bl h))))))))))
  · exact (bl (br (br (bl (bl (bl (br (br (bl (bl h))))))))))
  · exact (br (br (br (bl (bl (bl (br (br (bl (bl h))))))))))
  · exact (bl (bl (bl (br (bl (bl (br (br (bl (bl h))))))))))
  · exact (br (bl (bl (br (bl (bl (br (br (bl (bl h))))))))))
  · exact (bl (br (bl (br (bl (bl (br (br (bl (bl h))))))))))
  · exact (br (br (bl (br (bl (bl (br (br (bl (bl h))))))))))
  · exact (bl (bl (br (br (bl (bl (br (br (bl (bl h))))))))))
  · exact (br (bl (br (br (bl (bl (br (br (bl (bl h))))))))))
theorem dg_t5 {A : Array Value} {s : State} (h : narrow_1.before A s = true) : ∀ i, i < 10 → (Cond.eq (.elem tmD (.int (Int32.ofNat (50 + i)))) (.int (Int32.ofNat (48 + 5)))).before A s = true := by
  intro i hi
  rcases (show i = 0 ∨ i = 1 ∨ i = 2 ∨ i = 3 ∨ i = 4 ∨ i = 5 ∨ i = 6 ∨ i = 7 ∨ i = 8 ∨ i = 9 by omega) with rfl | rfl | rfl | rfl | rfl | rfl | rfl | rfl | rfl | rfl
  · exact (bl (br (br (br (bl (bl (br (br (bl (bl h))))))))))
  · exact (br (br (br (br (bl (bl (br (br (bl (bl h))))))))))
  · exact (bl (bl (bl (bl (br (bl (br (br (bl (bl h))))))))))
  · exact (br (bl (bl (bl (br (bl (br (br (bl (bl h))))))))))
  · exact (bl (br (bl (bl (br (bl (br (br (bl (bl h))))))))))
  · exact (br (br (bl (bl (br (bl (br (br (bl (bl h))))))))))
  · exact (bl (bl (br (bl (br (bl (br (br (bl (bl h))))))))))
  · exact (br (bl (br (bl (br (bl (br (br (bl (bl h))))))))))
  · exact (bl (br (br (bl (br (bl (br (br (bl (bl h))))))))))
  · exact (br (br (br (bl (br (bl (br (br (bl (bl h))))))))))
theorem dg_t6 {A : Array Value} {s : State} (h : narrow_1.before A s = true) : ∀ i, i < 10 → (Cond.eq (.elem tmD (.int (Int32.ofNat (60 + i)))) (.int (Int32.ofNat (48 + 6)))).before A s = true := by
  intro i hi
  rcases (show i = 0 ∨ i = 1 ∨ i = 2 ∨ i = 3 ∨ i = 4 ∨ i = 5 ∨ i = 6 ∨ i = 7 ∨ i = 8 ∨ i = 9 by omega) with rfl | rfl | rfl | rfl | rfl | rfl | rfl | rfl | rfl | rfl
  · exact (bl (bl (bl (br (br (bl (br (br (bl (bl h))))))))))
  · exact (br (bl (bl (br (br (bl (br (br (bl (bl h))))))))))
  · exact (bl (br (bl (br (br (bl (br (br (bl (bl h))))))))))
  · exact (br (br (bl (br (br (bl (br (br (bl (bl h))))))))))
  · exact (bl (bl (br (br (br (bl (br (br (bl (bl h))))))))))
  · exact (br (bl (br (br (br (bl (br (br (bl (bl h))))))))))
  · exact (bl (br (br (br (br (bl (br (br (bl (bl h))))))))))
  · exact (br (br (br (br (br (bl (br (br (bl (bl h))))))))))
  · exact (bl (bl (bl (bl (bl (br (br (br (bl (bl h))))))))))
  · exact (br (bl (bl (bl (bl (br (br (br (bl (bl h))))))))))
theorem dg_t7 {A : Array Value} {s : State} (h : narrow_1.before A s = true) : ∀ i, i < 10 → (Cond.eq (.elem tmD (.int (Int32.ofNat (70 + i)))) (.int (Int32.ofNat (48 + 7)))).before A s = true := by
  intro i hi
  rcases (show i = 0 ∨ i = 1 ∨ i = 2 ∨ i = 3 ∨ i = 4 ∨ i = 5 ∨ i = 6 ∨ i = 7 ∨ i = 8 ∨ i = 9 by omega) with rfl | rfl | rfl | rfl | rfl | rfl | rfl | rfl | rfl | rfl
  · exact (bl (br (bl (bl (bl (br (br (br (bl (bl h))))))))))
  · exact (br (br (bl (bl (bl (br (br (br (bl (bl h))))))))))
  · exact (bl (bl (br (bl (bl (br (br (br (bl (bl h))))))))))
  · exact (br (bl (br (bl (bl (br (br (br (bl (bl h))))))))))
  · exact (bl (br (br (bl (bl (br (br (br (bl (bl h))))))))))
  · exact (br (br (br (bl (bl (br (br (br (bl (bl h))))))))))
  · exact (bl (bl (bl (br (bl (br (br (br (bl (bl h))))))))))
  · exact (br (bl (bl (br (bl (br (br (br (bl (bl h))))))))))
  · exact (bl (br (bl (br (bl (br (br (br (bl (bl h))))))))))
  · exact (br (br (bl (br (bl (br (br (br (bl (bl h))))))))))
theorem dg_t8 {A : Array Value} {s : State} (h : narrow_1.before A s = true) : ∀ i, i < 10 → (Cond.eq (.elem tmD (.int (Int32.ofNat (80 + i)))) (.int (Int32.ofNat (48 + 8)))).before A s = true := by
  intro i hi
  rcases (show i = 0 ∨ i = 1 ∨ i = 2 ∨ i = 3 ∨ i = 4 ∨ i = 5 ∨ i = 6 ∨ i = 7 ∨ i = 8 ∨ i = 9 by omega) with rfl | rfl | rfl | rfl | rfl | rfl | rfl | rfl | rfl | rfl
  · exact (bl (bl (br (br (bl (br (br (br (bl (bl h))))))))))
  · exact (br (bl (br (br (bl (br (br (br (bl (bl h))))))))))
  · exact (bl (br (br (br (bl (br (br (br (bl (bl h))))))))))
  · exact (br (br (br (br (bl (br (br (br (bl (bl h))))))))))
  · exact (bl (bl (bl (bl (br (br (br (br (bl (bl h))))))))))
  · exact (br (bl (bl (bl (br (br (br (br (bl (bl h))))))))))
  · exact (bl (br (bl (bl (br (br (br (br (bl (bl h))))))))))
  · exact (br (br (bl (bl (br (br (br (br (bl (bl h))))))))))
  · exact (bl (bl (br (bl (br (br (br (br (bl (bl h))))))))))
  · exact (br (bl (br (bl (br (br (br (br (bl (bl h))))))))))
theorem dg_t9 {A : Array Value} {s : State} (h : narrow_1.before A s = true) : ∀ i, i < 10 → (Cond.eq (.elem tmD (.int (Int32.ofNat (90 + i)))) (.int (Int32.ofNat (48 + 9)))).before A s = true := by
  intro i hi
  rcases (show i = 0 ∨ i = 1 ∨ i = 2 ∨ i = 3 ∨ i = 4 ∨ i = 5 ∨ i = 6 ∨ i = 7 ∨ i = 8 ∨ i = 9 by omega) with rfl | rfl | rfl | rfl | rfl | rfl | rfl | rfl | rfl | rfl
  · exact (bl (br (br (bl (br (br (br (br (bl (bl h))))))))))
  · exact (br (br (br (bl (br (br (br (br (bl (bl h))))))))))
  · exact (bl (bl (bl (br (br (br (br (br (bl (bl h))))))))))
  · exact (br (bl (bl (br (br (br (br (br (bl (bl h))))))))))
  · exact (bl (br (bl (br (br (br (br (br (bl (bl h))))))))))
  · exact (br (br (bl (br (br (br (br (br (bl (bl h))))))))))
  · exact (bl (bl (br (br (br (br (br (br (bl (bl h))))))))))
  · exact (br (bl (br (br (br (br (br (br (bl (bl h))))))))))
  · exact (bl (br (br (br (br (br (br (br (bl (bl h))))))))))
  · exact (br (br (br (br (br (br (br (br (bl (bl h))))))))))
theorem dg_t {A : Array Value} {s : State} (h : narrow_1.before A s = true) : ∀ j, j < 100 → (Cond.eq (.elem tmD (.int (Int32.ofNat j))) (.int (Int32.ofNat (48 + j / 10)))).before A s = true := by
  intro j hj
  have hi : j % 10 < 10 := Nat.mod_lt _ (by decide +kernel)
  have e := Nat.div_add_mod j 10
  rcases (show j / 10 = 0 ∨ j / 10 = 1 ∨ j / 10 = 2 ∨ j / 10 = 3 ∨ j / 10 = 4 ∨ j / 10 = 5 ∨ j / 10 = 6 ∨ j / 10 = 7 ∨ j / 10 = 8 ∨ j / 10 = 9 by omega) with q | q | q | q | q | q | q | q | q | q
  · have k9 := dg_t0 h (j % 10) hi
    rw [show 0 + j % 10 = j by omega] at k9
    rw [q]
    exact k9
  · have k9 := dg_t1 h (j % 10) hi
    rw [show 10 + j % 10 = j by omega] at k9
    rw [q]
    exact k9
  · have k9 := dg_t2 h (j % 10) hi
    rw [show 20 + j % 10 = j by omega] at k9
    rw [q]
    exact k9
  · have k9 := dg_t3 h (j % 10) hi
    rw [show 30 + j % 10 = j by omega] at k9
    rw [q]
    exact k9
  · have k9 := dg_t4 h (j % 10) hi
    rw [show 40 + j % 10 = j by omega] at k9
    rw [q]
    exact k9
  · have k9 := dg_t5 h (j % 10) hi
    rw [show 50 + j % 10 = j by omega] at k9
    rw [q]
    exact k9
  · have k9 := dg_t6 h (j % 10) hi
    rw [show 60 + j % 10 = j by omega] at k9
    rw [q]
    exact k9
  · have k9 := dg_t7 h (j % 10) hi
    rw [show 70 + j % 10 = j by omega] at k9
    rw [q]
    exact k9
  · have k9 := dg_t8 h (j % 10) hi
    rw [show 80 + j % 10 = j by omega] at k9
    rw [q]
    exact k9
  · have k9 := dg_t9 h (j % 10) hi
    rw [show 90 + j % 10 = j by omega] at k9
    rw [q]
    exact k9
theorem dg_tl {A : Array Value} {s : State} (h : narrow_1.before A s = true) : (Cond.eq (.length tmD) (.int (Int32.ofNat 100))).before A s = true := (br (bl (bl (br (br (bl (bl (br (bl (bl h))))))))))
theorem dg_ta {A : Array Value} {s : State} (h : narrow_1.before A s = true) : (Cond.arrayOf tmD .byte).before A s = true := (bl (bl (bl (br (br (bl (bl (br (bl (bl h))))))))))
theorem dg_o0 {A : Array Value} {s : State} (h : narrow_1.before A s = true) : ∀ i, i < 10 → (Cond.eq (.elem tmO (.int (Int32.ofNat (0 + i)))) (.int (Int32.ofNat (48 + i)))).before A s = true := by
  intro i hi
  rcases (show i = 0 ∨ i = 1 ∨ i = 2 ∨ i = 3 ∨ i = 4 ∨ i = 5 ∨ i = 6 ∨ i = 7 ∨ i = 8 ∨ i = 9 by omega) with rfl | rfl | rfl | rfl | rfl | rfl | rfl | rfl | rfl | rfl
  · exact (br (bl (bl (bl (br (br (bl (bl (bl (bl h))))))))))
  · exact (bl (br (bl (bl (br (br (bl (bl (bl (bl h))))))))))
  · exact (br (br (bl (bl (br (br (bl (bl (bl (bl h))))))))))
  · exact (bl (bl (br (bl (br (br (bl (bl (bl (bl h))))))))))
  · exact (br (bl (br (bl (br (br (bl (bl (bl (bl h))))))))))
  · exact (bl (br (br (bl (br (br (bl (bl (bl (bl h))))))))))
  · exact (br (br (br (bl (br (br (bl (bl (bl (bl h))))))))))
  · exact (bl (bl (bl (br (br (br (bl (bl (bl (bl h))))))))))
  · exact (br (bl (bl (br (br (br (bl (bl (bl (bl h))))))))))
  · exact (bl (br (bl (br (br (br (bl (bl (bl (bl h))))))))))
theorem dg_o1 {A : Array Value} {s : State} (h : narrow_1.before A s = true) : ∀ i, i < 10 → (Cond.eq (.elem tmO (.int (Int32.ofNat (10 + i)))) (.int (Int32.ofNat (48 + i)))).before A s = true := by
  intro i hi
  rcases (show i = 0 ∨ i = 1 ∨ i = 2 ∨ i = 3 ∨ i = 4 ∨ i = 5 ∨ i = 6 ∨ i = 7 ∨ i = 8 ∨ i = 9 by omega) with rfl | rfl | rfl | rfl | rfl | rfl | rfl | rfl | rfl | rfl
  · exact (br (br (bl (br (br (br (bl (bl (bl (bl h))))))))))
  · exact (bl (bl (br (br (br (br (bl (bl (bl (bl h))))))))))
  · exact (br (bl (br (br (br (br (bl (bl (bl (bl h))))))))))
  · exact (bl (br (br (br (br (br (bl (bl (bl (bl h))))))))))
  · exact (br (br (br (br (br (br (bl (bl (bl (bl h))))))))))
  · exact (bl (bl (bl (bl (bl (br (bl (bl (bl h)))))))))
  · exact (bl (br (bl (bl (bl (bl (br (bl (bl (bl h))))))))))
  · exact (br (br (bl (bl (bl (bl (br (bl (bl (bl h))))))))))
  · exact (bl (bl (br (bl (bl (bl (br (bl (bl (bl h))))))))))
  · exact (br (bl (br (bl (bl (bl (br (bl (bl (bl h))))))))))
theorem dg_o2 {A : Array Value} {s : State} (h : narrow_1.before A s = true) : ∀ i, i < 10 → (Cond.eq (.elem tmO (.int (Int32.ofNat (20 + i)))) (.int (Int32.ofNat (48 + i)))).before A s = true := by
  intro i hi
  rcases (show i = 0 ∨ i = 1 ∨ i = 2 ∨ i = 3 ∨ i = 4 ∨ i = 5 ∨ i = 6 ∨ i = 7 ∨ i = 8 ∨ i = 9 by omega) with rfl | rfl | rfl | rfl | rfl | rfl | rfl | rfl | rfl | rfl
  · exact (bl (br (br (bl (bl (bl (br (bl (bl (bl h))))))))))
  · exact (br (br (br (bl (bl (bl (br (bl (bl (bl h))))))))))
  · exact (bl (bl (bl (br (bl (bl (br (bl (bl (bl h))))))))))
  · exact (br (bl (bl (br (bl (bl (br (bl (bl (bl h))))))))))
  · exact (bl (br (bl (br (bl (bl (br (bl (bl (bl h))))))))))
  · exact (br (br (bl (br (bl (bl (br (bl (bl (bl h))))))))))
  · exact (bl (bl (br (br (bl (bl (br (bl (bl (bl h))))))))))
  · exact (br (bl (br (br (bl (bl (br (bl (bl (bl h))))))))))
  · exact (bl (br (br (br (bl (bl (br (bl (bl (bl h))))))))))
  · exact (br (br (br (br (bl (bl (br (bl (bl (bl h))))))))))
theorem dg_o3 {A : Array Value} {s : State} (h : narrow_1.before A s = true) : ∀ i, i < 10 → (Cond.eq (.elem tmO (.int (Int32.ofNat (30 + i)))) (.int (Int32.ofNat (48 + i)))).before A s = true := by
  intro i hi
  rcases (show i = 0 ∨ i = 1 ∨ i = 2 ∨ i = 3 ∨ i = 4 ∨ i = 5 ∨ i = 6 ∨ i = 7 ∨ i = 8 ∨ i = 9 by omega) with rfl | rfl | rfl | rfl | rfl | rfl | rfl | rfl | rfl | rfl
  · exact (bl (bl (bl (bl (br (bl (br (bl (bl (bl h))))))))))
  · exact (br (bl (bl (bl (br (bl (br (bl (bl (bl h))))))))))
  · exact (bl (br (bl (bl (br (bl (br (bl (bl (bl h))))))))))
  · exact (br (br (bl (bl (br (bl (br (bl (bl (bl h))))))))))
  · exact (bl (bl (br (bl (br (bl (br (bl (bl (bl h))))))))))
  · exact (br (bl (br (bl (br (bl (br (bl (bl (bl h))))))))))
  · exact (bl (br (br (bl (br (bl (br (bl (bl (bl h))))))))))
  · exact (br (br (br (bl (br (bl (br (bl (bl (bl h))))))))))
  · exact (bl (bl (bl (br (br (bl (br (bl (bl (bl h))))))))))
  · exact (br (bl (bl (br (br (bl (br (bl (bl (bl h))))))))))
theorem dg_o4 {A : Array Value} {s : State} (h : narrow_1.before A s = true) : ∀ i, i < 10 → (Cond.eq (.elem tmO (.int (Int32.ofNat (40 + i)))) (.int (Int32.ofNat (48 + i)))).before A s = true := by
  intro i hi
  rcases (show i = 0 ∨ i = 1 ∨ i = 2 ∨ i = 3 ∨ i = 4 ∨ i = 5 ∨ i = 6 ∨ i = 7 ∨ i = 8 ∨ i = 9 by omega) with rfl | rfl | rfl | rfl | rfl | rfl | rfl | rfl | rfl | rfl
  · exact (bl (br (bl (br (br (bl (br (bl (bl (bl h))))))))))
  · exact (br (br (bl (br (br (bl (br (bl (bl (bl h))))))))))
  · exact (bl (bl (br (br (br (bl (br (bl (bl (bl h))))))))))
  · exact (br (bl (br (br (br (bl (br (bl (bl (bl h))))))))))
  · exact (bl (br (br (br (br (bl (br (bl (bl (bl h))))))))))
  · exact (br (br (br (br (br (bl (br (bl (bl (bl h))))))))))
  · exact (bl (bl (bl (bl (bl (br (br (bl (bl (bl h))))))))))
  · exact (br (bl (bl (bl (bl (br (br (bl (bl (bl h))))))))))
  · exact (bl (br (bl (bl (bl (br (br (bl (bl (bl h))))))))))
  · exact (br (br (bl (bl (bl (br (br (bl (bl (bl h))))))))))
theorem dg_o5 {A : Array Value} {s : State} (h : narrow_1.before A s = true) : ∀ i, i < 10 → (Cond.eq (.elem tmO (.int (Int32.ofNat (50 + i)))) (.int (Int32.ofNat (48 + i)))).before A s = true := by
  intro i hi
  rcases (show i = 0 ∨ i = 1 ∨ i = 2 ∨ i = 3 ∨ i = 4 ∨ i = 5 ∨ i = 6 ∨ i = 7 ∨ i = 8 ∨ i = 9 by omega) with rfl | rfl | rfl | rfl | rfl | rfl | rfl | rfl | rfl | rfl
  · exact (bl (bl (br (bl (bl (br (br (bl (bl (bl h))))))))))
  · exact (br (bl (br (bl (bl (br (br (bl (bl (bl h))))))))))
  · exact (bl (br (br (bl (bl (br (br (bl (bl (bl h))))))))))
  · exact (br (br (br (bl (bl (br (br (bl (bl (bl h))))))))))
  · exact (bl (bl (bl (br (bl (br (br (bl (bl (bl h))))))))))
  · exact (br (bl (bl (br (bl (br (br (bl (bl (bl h))))))))))
  · exact (bl (br (bl (br (bl (br (br (bl (bl (bl h))))))))))
  · exact (br (br (bl (br (bl (br (br (bl (bl (bl h))))))))))
  · exact (bl (bl (br (br (bl (br (br (bl (bl (bl h))))))))))
  · exact (br (bl (br (br (bl (br (br (bl (bl (bl h))))))))))
theorem dg_o6 {A : Array Value} {s : State} (h : narrow_1.before A s = true) : ∀ i, i < 10 → (Cond.eq (.elem tmO (.int (Int32.ofNat (60 + i)))) (.int (Int32.ofNat (48 + i)))).before A s = true := by
  intro i hi
  rcases (show i = 0 ∨ i = 1 ∨ i = 2 ∨ i = 3 ∨ i = 4 ∨ i = 5 ∨ i = 6 ∨ i = 7 ∨ i = 8 ∨ i = 9 by omega) with rfl | rfl | rfl | rfl | rfl | rfl | rfl | rfl | rfl | rfl
  · exact (bl (br (br (br (bl (br (br (bl (bl (bl h))))))))))
  · exact (br (br (br (br (bl (br (br (bl (bl (bl h))))))))))
  · exact (bl (bl (bl (bl (br (br (br (bl (bl (bl h))))))))))
  · exact (br (bl (bl (bl (br (br (br (bl (bl (bl h))))))))))
  · exact (bl (br (bl (bl (br (br (br (bl (bl (bl h))))))))))
  · exact (br (br (bl (bl (br (br (br (bl (bl (bl h))))))))))
  · exact (bl (bl (br (bl (br (br (br (bl (bl (bl h))))))))))
  · exact (br (bl (br (bl (br (br (br (bl (bl (bl h))))))))))
  · exact (bl (br (br (bl (br (br (br (bl (bl (bl h))))))))))
  · exact (br (br (br (bl (br (br (br (bl (bl (bl h))))))))))
theorem dg_o7 {A : Array Value} {s : State} (h : narrow_1.before A s = true) : ∀ i, i < 10 → (Cond.eq (.elem tmO (.int (Int32.ofNat (70 + i)))) (.int (Int32.ofNat (48 + i)))).before A s = true := by
  intro i hi
  rcases (show i = 0 ∨ i = 1 ∨ i = 2 ∨ i = 3 ∨ i = 4 ∨ i = 5 ∨ i = 6 ∨ i = 7 ∨ i = 8 ∨ i = 9 by omega) with rfl | rfl | rfl | rfl | rfl | rfl | rfl | rfl | rfl | rfl
  · exact (bl (bl (bl (br (br (br (br (bl (bl (bl h))))))))))
  · exact (br (bl (bl (br (br (br (br (bl (bl (bl h))))))))))
  · exact (bl (br (bl (br (br (br (br (bl (bl (bl h))))))))))
  · exact (br (br (bl (br (br (br (br (bl (bl (bl h))))))))))
  · exact (bl (bl (br (br (br (br (br (bl (bl (bl h))))))))))
  · exact (br (bl (br (br (br (br (br (bl (bl (bl h))))))))))
  · exact (bl (br (br (br (br (br (br (bl (bl (bl h))))))))))
  · exact (br (br (br (br (br (br (br (bl (bl (bl h))))))))))
  · exact (bl (bl (bl (bl (bl (bl (br (bl (bl h)))))))))
  · exact (bl (br (bl (bl (bl (bl (bl (br (bl (bl h))))))))))
theorem dg_o8 {A : Array Value} {s : State} (h : narrow_1.before A s = true) : ∀ i, i < 10 → (Cond.eq (.elem tmO (.int (Int32.ofNat (80 + i)))) (.int (Int32.ofNat (48 + i)))).before A s = true := by
  intro i hi
  rcases (show i = 0 ∨ i = 1 ∨ i = 2 ∨ i = 3 ∨ i = 4 ∨ i = 5 ∨ i = 6 ∨ i = 7 ∨ i = 8 ∨ i = 9 by omega) with rfl | rfl | rfl | rfl | rfl | rfl | rfl | rfl | rfl | rfl
  · exact (br (br (bl (bl (bl (bl (bl (br (bl (bl h))))))))))
  · exact (bl (bl (br (bl (bl (bl (bl (br (bl (bl h))))))))))
  · exact (br (bl (br (bl (bl (bl (bl (br (bl (bl h))))))))))
  · exact (bl (br (br (bl (bl (bl (bl (br (bl (bl h))))))))))
  · exact (br (br (br (bl (bl (bl (bl (br (bl (bl h))))))))))
  · exact (bl (bl (bl (br (bl (bl (bl (br (bl (bl h))))))))))
  · exact (br (bl (bl (br (bl (bl (bl (br (bl (bl h))))))))))
  · exact (bl (br (bl (br (bl (bl (bl (br (bl (bl h))))))))))
  · exact (br (br (bl (br (bl (bl (bl (br (bl (bl h))))))))))
  · exact (bl (bl (br (br (bl (bl (bl (br (bl (bl h))))))))))
theorem dg_o9 {A : Array Value} {s : State} (h : narrow_1.before A s = true) : ∀ i, i < 10 → (Cond.eq (.elem tmO (.int (Int32.ofNat (90 + i)))) (.int (Int32.ofNat (48 + i)))).before A s = true := by
  intro i hi
  rcases (show i = 0 ∨ i = 1 ∨ i = 2 ∨ i = 3 ∨ i = 4 ∨ i = 5 ∨ i = 6 ∨ i = 7 ∨ i = 8 ∨ i = 9 by omega) with rfl | rfl | rfl | rfl | rfl | rfl | rfl | rfl | rfl | rfl
  · exact (br (bl (br (br (bl (bl (bl (br (bl (bl h))))))))))
  · exact (bl (br (br (br (bl (bl (bl (br (bl (bl h))))))))))
  · exact (br (br (br (br (bl (bl (bl (br (bl (bl h))))))))))
  · exact (bl (bl (bl (bl (br (bl (bl (br (bl (bl h))))))))))
  · exact (br (bl (bl (bl (br (bl (bl (br (bl (bl h))))))))))
  · exact (bl (br (bl (bl (br (bl (bl (br (bl (bl h))))))))))
  · exact (br (br (bl (bl (br (bl (bl (br (bl (bl h))))))))))
  · exact (bl (bl (br (bl (br (bl (bl (br (bl (bl h))))))))))
  · exact (br (bl (br (bl (br (bl (bl (br (bl (bl h))))))))))
  · exact (bl (br (br (bl (br (bl (bl (br (bl (bl h))))))))))
theorem dg_o {A : Array Value} {s : State} (h : narrow_1.before A s = true) : ∀ j, j < 100 → (Cond.eq (.elem tmO (.int (Int32.ofNat j))) (.int (Int32.ofNat (48 + j % 10)))).before A s = true := by
  intro j hj
  have hi : j % 10 < 10 := Nat.mod_lt _ (by decide +kernel)
  have e := Nat.div_add_mod j 10
  rcases (show j / 10 = 0 ∨ j / 10 = 1 ∨ j / 10 = 2 ∨ j / 10 = 3 ∨ j / 10 = 4 ∨ j / 10 = 5 ∨ j / 10 = 6 ∨ j / 10 = 7 ∨ j / 10 = 8 ∨ j / 10 = 9 by omega) with q | q | q | q | q | q | q | q | q | q
  · have k9 := dg_o0 h (j % 10) hi
    rw [show 0 + j % 10 = j by omega] at k9
    exact k9
  · have k9 := dg_o1 h (j % 10) hi
    rw [show 10 + j % 10 = j by omega] at k9
    exact k9
  · have k9 := dg_o2 h (j % 10) hi
    rw [show 20 + j % 10 = j by omega] at k9
    exact k9
  · have k9 := dg_o3 h (j % 10) hi
    rw [show 30 + j % 10 = j by omega] at k9
    exact k9
  · have k9 := dg_o4 h (j % 10) hi
    rw [show 40 + j % 10 = j by omega] at k9
    exact k9
  · have k9 := dg_o5 h (j % 10) hi
    rw [show 50 + j % 10 = j by omega] at k9
    exact k9
  · have k9 := dg_o6 h (j % 10) hi
    rw [show 60 + j % 10 = j by omega] at k9
    exact k9
  · have k9 := dg_o7 h (j % 10) hi
    rw [show 70 + j % 10 = j by omega] at k9
    exact k9
  · have k9 := dg_o8 h (j % 10) hi
    rw [show 80 + j % 10 = j by omega] at k9
    exact k9
  · have k9 := dg_o9 h (j % 10) hi
    rw [show 90 + j % 10 = j by omega] at k9
    exact k9
theorem dg_ol {A : Array Value} {s : State} (h : narrow_1.before A s = true) : (Cond.eq (.length tmO) (.int (Int32.ofNat 100))).before A s = true := (bl (bl (bl (bl (br (br (bl (bl (bl (bl h))))))))))
theorem dg_oa {A : Array Value} {s : State} (h : narrow_1.before A s = true) : (Cond.arrayOf tmO .byte).before A s = true := (br (br (br (br (bl (br (bl (bl (bl (bl h))))))))))
theorem cs_e {A : Array Value} {s : State} (h : narrow_1.before A s = true) : (Cond.eq (.static "java/lang/String" "COMPACT_STRINGS" "Z") (.int 1)).before A s = true := (br (bl (bl (br (bl (br (bl (bl (bl (bl h))))))))))
theorem th_u {A : Array Value} {s : State} (h : narrow_1.before A s = true) : (Cond.isRef (.static "java/lang/Throwable" "UNASSIGNED_STACK" "[Ljava/lang/StackTraceElement;")).before A s = true := (br (br (br (bl (bl (br (bl (bl (bl (bl h))))))))))
theorem th_s {A : Array Value} {s : State} (h : narrow_1.before A s = true) : (Cond.isRef (.static "java/lang/Throwable" "SUPPRESSED_SENTINEL" "Ljava/util/List;")).before A s = true := (bl (bl (bl (br (bl (br (bl (bl (bl (bl h))))))))))
theorem xp_e {A : Array Value} {s : State} (h : narrow_1.before A s = true) : ∀ q ∈ XP, (Cond.not (.castable q.1 q.2)).before A s = true := by
  intro q hq
  unfold XP at hq
  simp only [List.mem_cons, List.not_mem_nil, or_false] at hq
  rcases hq with rfl | rfl | rfl | rfl | rfl | rfl
  · exact (br (bl (bl (bl (br (bl (bl (bl (br (bl h))))))))))
  · exact (br (br (bl (br (br (bl (bl (bl (br (bl h))))))))))
  · exact (br (br (br (bl (bl (bl (bl (bl (br (bl h))))))))))
  · exact (bl (bl (br (br (br (bl (bl (bl (br (bl h))))))))))
  · exact (bl (bl (bl (br (bl (bl (bl (bl (br (bl h))))))))))
  · exact (bl (br (bl (bl (br (bl (bl (bl (br (bl h))))))))))
theorem sx_0 {A : Array Value} {s : State} (h : narrow_1.before A s = true) : (Cond.exactly (.string "Overwalks" 304) "java/lang/String").before A s = true := (bl (br (br (bl (br (br (bl (bl (br (bl h))))))))))
theorem sx_1 {A : Array Value} {s : State} (h : narrow_1.before A s = true) : (Cond.exactly (.string "Overwalks" 350) "java/lang/String").before A s = true := (br (bl (br (br (bl (bl (br (bl (br (bl h))))))))))
theorem sx_2 {A : Array Value} {s : State} (h : narrow_1.before A s = true) : (Cond.exactly (.string "Overwalks" 281) "java/lang/String").before A s = true := (bl (br (br (br (br (bl (br (bl (br (bl h))))))))))
theorem sx_3 {A : Array Value} {s : State} (h : narrow_1.before A s = true) : (Cond.exactly (.string "Overwalks" 337) "java/lang/String").before A s = true := (bl (br (br (bl (br (br (br (bl (br (bl h))))))))))
theorem sx_4 {A : Array Value} {s : State} (h : narrow_1.before A s = true) : (Cond.exactly (.string "Overwalks" 361) "java/lang/String").before A s = true := (br (br (bl (br (bl (bl (bl (br (br (bl h))))))))))
theorem sx_5 {A : Array Value} {s : State} (h : narrow_1.before A s = true) : (Cond.exactly (.string "Overwalks" 367) "java/lang/String").before A s = true := (br (br (br (br (br (bl (bl (br (br (bl h))))))))))
theorem sx_6 {A : Array Value} {s : State} (h : narrow_1.before A s = true) : (Cond.exactly (.string "Overwalks" 363) "java/lang/String").before A s = true := (br (bl (br (bl (bl (bl (br (br (br (bl h))))))))))
theorem sx_7 {A : Array Value} {s : State} (h : narrow_1.before A s = true) : (Cond.exactly (.string "Overwalks" 359) "java/lang/String").before A s = true := (bl (bl (br (br (br (bl (br (br (br (bl h))))))))))
theorem sx_8 {A : Array Value} {s : State} (h : narrow_1.before A s = true) : (Cond.exactly (.string "Overwalks" 346) "java/lang/String").before A s = true := (bl (br (bl (bl (br (br (br (br (br (bl h))))))))))
theorem sx_9 {A : Array Value} {s : State} (h : narrow_1.before A s = true) : (Cond.exactly (.string "Overwalks" 357) "java/lang/String").before A s = true := (br (br (br (br (bl (bl (bl (bl (bl (br h))))))))))
theorem sx_10 {A : Array Value} {s : State} (h : narrow_1.before A s = true) : (Cond.exactly (.string "Overwalks" 152) "java/lang/String").before A s = true := (bl (br (bl (br (bl (br (bl (bl (bl (br h))))))))))
theorem sx_11 {A : Array Value} {s : State} (h : narrow_1.before A s = true) : (Cond.exactly (.string "Overwalks" 365) "java/lang/String").before A s = true := (bl (bl (br (br (bl (bl (br (bl (bl (br h))))))))))
theorem sx_12 {A : Array Value} {s : State} (h : narrow_1.before A s = true) : (Cond.exactly (.string "Overwalks" 175) "java/lang/String").before A s = true := (bl (br (br (br (bl (br (br (bl (bl (br h))))))))))
theorem sx_13 {A : Array Value} {s : State} (h : narrow_1.before A s = true) : (Cond.exactly (.string "Overwalks" 177) "java/lang/String").before A s = true := (bl (bl (bl (bl (br (bl (bl (br (bl (br h))))))))))
theorem sx_14 {A : Array Value} {s : State} (h : narrow_1.before A s = true) : (Cond.exactly (.string "Overwalks" 354) "java/lang/String").before A s = true := (bl (br (br (br (br (br (bl (br (bl (br h))))))))))
theorem sx_15 {A : Array Value} {s : State} (h : narrow_1.before A s = true) : (Cond.exactly (.string "Overwalks" 217) "java/lang/String").before A s = true := (br (br (br (bl (bl (br (br (br (bl (br h))))))))))
theorem sx_16 {A : Array Value} {s : State} (h : narrow_1.before A s = true) : (Cond.exactly (.string "java/util/Arrays" 337) "java/lang/String").before A s = true := (br (br (bl (br (br (br (br (br (bl (br h))))))))))
theorem sx_17 {A : Array Value} {s : State} (h : narrow_1.before A s = true) : (Cond.exactly (.string "Overwalks" 348) "java/lang/String").before A s = true := (br (br (bl (bl (br (bl (bl (bl (br (br h))))))))))
theorem sx_18 {A : Array Value} {s : State} (h : narrow_1.before A s = true) : (Cond.exactly (.string "Overwalks" 240) "java/lang/String").before A s = true := (br (bl (br (bl (br (br (bl (bl (br (br h))))))))))
theorem sx_19 {A : Array Value} {s : State} (h : narrow_1.before A s = true) : (Cond.exactly (.string "OverwalksModel" 154) "java/lang/String").before A s = true := (br (br (bl (bl (bl (br (br (bl (br (br h))))))))))
theorem sx_20 {A : Array Value} {s : State} (h : narrow_1.before A s = true) : (Cond.exactly (.string "OverwalksModel" 57) "java/lang/String").before A s = true := (bl (br (bl (br (br (br (br (bl (br (br h))))))))))
theorem sx_21 {A : Array Value} {s : State} (h : narrow_1.before A s = true) : (Cond.exactly (.string "OverwalksModel" 167) "java/lang/String").before A s = true := (bl (bl (br (bl (br (bl (bl (br (br (br h))))))))))
theorem sx_22 {A : Array Value} {s : State} (h : narrow_1.before A s = true) : (Cond.exactly (.string "OverwalksModel" 149) "java/lang/String").before A s = true := (bl (br (br (br (bl (br (bl (br (br (br h))))))))))
theorem sx_23 {A : Array Value} {s : State} (h : narrow_1.before A s = true) : (Cond.exactly (.string "OverwalksModel" 197) "java/lang/String").before A s = true := (bl (br (bl (br (bl (bl (br (br (br (br h))))))))))
def ALS : List (String × Nat × String × Nat) → Prop
  | [] => True
  | (a, b, c, _) :: l => Cond.stringRef a b c ∈ tables_1 ∧ ALS l
theorem ALS.use : ∀ {l : List (String × Nat × String × Nat)}, ALS l → ∀ q ∈ l, Cond.stringRef q.1 q.2.1 q.2.2.1 ∈ tables_1
  | [], _, w, hw => by cases hw
  | (a, b, c, d) :: l, h, w, hw => by
    rcases List.mem_cons.mp hw with rfl | hw
    · exact h.1
    · exact ALS.use h.2 w hw
theorem sr_r : ∀ q ∈ SR0, Cond.stringRef q.1 q.2.1 q.2.2.1 ∈ tables_1 := ALS.use (l := SR0) ⟨amm_1_48.1, amm_1_90.2.2.1, amm_1_96.2.2.2.1, amm_1_126.2.2.1, amm_1_132.1, amm_1_144.2.1, amm_1_186.2.2.2.1, amm_1_228.2.2.2.2.2.1, amm_2_24.2.2.2.1, amm_2_30.2.1, amm_2_60.2.2.2.2.2.1, amm_2_102.2.2.2.1, amm_2_108.2.2.2.2.2.1, amm_2_114.1, amm_2_120.2.2.2.2.2.1, amm_2_156.2.2.2.1, amm_3_126.2.2.2.1, amm_3_204.2.1, amm_4.2.1, amm_5_102.2.1, amm_5_108.1, amm_5_114.2.2.2.2.2.1, amm_5_120.2.2.2.1, amm_5_156.2.2.2.2.2.1, trivial⟩
theorem tx_48c {A : Array Value} {s : State} (h : narrow_1.before A s = true) : (Cond.eq (.field (.string "OverwalksModel" 154) "java/lang/String" "coder" "B") (.int 0)).before A s = true := (bl (bl (br (bl (bl (br (br (bl (br (br h))))))))))
theorem tx_48a {A : Array Value} {s : State} (h : narrow_1.before A s = true) : (Cond.arrayOf (.field (.string "OverwalksModel" 154) "java/lang/String" "value" "[B") .byte).before A s = true := (br (bl (br (bl (bl (br (br (bl (br (br h))))))))))
theorem tx_48l {A : Array Value} {s : State} (h : narrow_1.before A s = true) : (Cond.eq (.length (.field (.string "OverwalksModel" 154) "java/lang/String" "value" "[B")) (.int (Int32.ofNat 0))).before A s = true := (bl (br (br (bl (bl (br (br (bl (br (br h))))))))))
theorem tx_48e {A : Array Value} {s : State} (h : narrow_1.before A s = true) : ∀ j, j < 0 → (Cond.eq (.elem (.field (.string "OverwalksModel" 154) "java/lang/String" "value" "[B") (.int (Int32.ofNat j))) (.int 0)).before A s = true := by
  intro j hj
  exact absurd hj (Nat.not_lt_zero _)
theorem tx_50c {A : Array Value} {s : State} (h : narrow_1.before A s = true) : (Cond.eq (.field (.string "OverwalksModel" 167) "java/lang/String" "coder" "B") (.int 0)).before A s = true := (br (bl (br (bl (br (bl (bl (br (br (br h))))))))))
theorem tx_50a {A : Array Value} {s : State} (h : narrow_1.before A s = true) : (Cond.arrayOf (.field (.string "OverwalksModel" 167) "java/lang/String" "value" "[B") .byte).before A s = true := (bl (br (br (bl (br (bl (bl (br (br (br h))))))))))
theorem tx_50l {A : Array Value} {s : State} (h : narrow_1.before A s = true) : (Cond.eq (.length (.field (.string "OverwalksModel" 167) "java/lang/String" "value" "[B")) (.int (Int32.ofNat 1))).before A s = true := (br (br (br (bl (br (bl (bl (br (br (br h))))))))))
theorem tx_50e {A : Array Value} {s : State} (h : narrow_1.before A s = true) : ∀ j, j < 1 → (Cond.eq (.elem (.field (.string "OverwalksModel" 167) "java/lang/String" "value" "[B") (.int (Int32.ofNat j))) (.int 32)).before A s = true := by
  intro j hj
  rcases (show j = 0 by omega) with rfl
  exact (bl (bl (bl (br (br (bl (bl (br (br (br h))))))))))
theorem tx_52c {A : Array Value} {s : State} (h : narrow_1.before A s = true) : (Cond.eq (.field (.string "OverwalksModel" 149) "java/lang/String" "coder" "B") (.int 0)).before A s = true := (br (br (br (br (bl (br (bl (br (br (br h))))))))))
theorem tx_52a {A : Array Value} {s : State} (h : narrow_1.before A s = true) : (Cond.arrayOf (.field (.string "OverwalksModel" 149) "java/lang/String" "value" "[B") .byte).before A s = true := (bl (bl (bl (bl (br (br (bl (br (br (br h))))))))))
theorem tx_52l {A : Array Value} {s : State} (h : narrow_1.before A s = true) : (Cond.eq (.length (.field (.string "OverwalksModel" 149) "java/lang/String" "value" "[B")) (.int (Int32.ofNat 1))).before A s = true := (br (bl (bl (bl (br (br (bl (br (br (br h))))))))))
theorem tx_52e {A : Array Value} {s : State} (h : narrow_1.before A s = true) : ∀ j, j < 1 → (Cond.eq (.elem (.field (.string "OverwalksModel" 149) "java/lang/String" "value" "[B") (.int (Int32.ofNat j))) (.int 45)).before A s = true := by
  intro j hj
  rcases (show j = 0 by omega) with rfl
  exact (bl (br (bl (bl (br (br (bl (br (br (br h))))))))))
theorem tx_54c {A : Array Value} {s : State} (h : narrow_1.before A s = true) : (Cond.eq (.field (.string "OverwalksModel" 197) "java/lang/String" "coder" "B") (.int 0)).before A s = true := (br (br (bl (br (bl (bl (br (br (br (br h))))))))))
theorem tx_54a {A : Array Value} {s : State} (h : narrow_1.before A s = true) : (Cond.arrayOf (.field (.string "OverwalksModel" 197) "java/lang/String" "value" "[B") .byte).before A s = true := (bl (bl (br (br (bl (bl (br (br (br (br h))))))))))
theorem tx_54l {A : Array Value} {s : State} (h : narrow_1.before A s = true) : (Cond.eq (.length (.field (.string "OverwalksModel" 197) "java/lang/String" "value" "[B")) (.int (Int32.ofNat 1))).before A s = true := (br (bl (br (br (bl (bl (br (br (br (br h))))))))))
theorem tx_54e {A : Array Value} {s : State} (h : narrow_1.before A s = true) : ∀ j, j < 1 → (Cond.eq (.elem (.field (.string "OverwalksModel" 197) "java/lang/String" "value" "[B") (.int (Int32.ofNat j))) (.int 47)).before A s = true := by
  intro j hj
  rcases (show j = 0 by omega) with rfl
  exact (bl (br (br (br (bl (bl (br (br (br (br h))))))))))
theorem tx_40c {A : Array Value} {s : State} (h : narrow_1.before A s = true) : (Cond.eq (.field (.string "OverwalksModel" 57) "java/lang/String" "coder" "B") (.int 0)).before A s = true := (br (br (bl (br (br (br (br (bl (br (br h))))))))))
theorem tx_40a {A : Array Value} {s : State} (h : narrow_1.before A s = true) : (Cond.arrayOf (.field (.string "OverwalksModel" 57) "java/lang/String" "value" "[B") .byte).before A s = true := (bl (bl (br (br (br (br (br (bl (br (br h))))))))))
theorem tx_40l {A : Array Value} {s : State} (h : narrow_1.before A s = true) : (Cond.eq (.length (.field (.string "OverwalksModel" 57) "java/lang/String" "value" "[B")) (.int (Int32.ofNat 1))).before A s = true := (br (bl (br (br (br (br (br (bl (br (br h))))))))))
theorem tx_40e {A : Array Value} {s : State} (h : narrow_1.before A s = true) : ∀ j, j < 1 → (Cond.eq (.elem (.field (.string "OverwalksModel" 57) "java/lang/String" "value" "[B") (.int (Int32.ofNat j))) (.int 33)).before A s = true := by
  intro j hj
  rcases (show j = 0 by omega) with rfl
  exact (bl (br (br (br (br (br (br (bl (br (br h))))))))))
theorem two_e {A : Array Value} {s : State} (h : narrow_1.before A s = true) : (Cond.eq (.string "Overwalks" 217) (.string "OverwalksModel" 57)).before A s = true := (br (br (br (br (bl (bl (bl (br (br (br h))))))))))
theorem ls_e : (Cond.laysStatic "java/lang/Integer" "DigitTens" "[B" ∈ tables_1 ∧ Cond.laysStatic "java/lang/Integer" "DigitOnes" "[B" ∈ tables_1 ∧ Cond.laysStatic "java/lang/String" "COMPACT_STRINGS" "Z" ∈ tables_1) ∧ Cond.laysStatic "java/lang/Throwable" "UNASSIGNED_STACK" "[Ljava/lang/StackTraceElement;" ∈ tables_1 ∧ Cond.laysStatic "java/lang/Throwable" "SUPPRESSED_SENTINEL" "Ljava/util/List;" ∈ tables_1 := by decide +kernel
theorem in_e : ∀ C ∈ ["Overwalks$Kind", "java/lang/Integer", "java/lang/String", "java/lang/Throwable"], Cond.initialized C ∈ tables_1 := by decide +kernel
theorem ar_e : (Cond.arrayClass .int ∈ tables_1 ∧ Cond.arrayClass .boolean ∈ tables_1 ∧ Cond.arrayClass .byte ∈ tables_1) ∧ Cond.arrayOver (.object "Overwalks$Shelf") ∈ tables_1 ∧ Cond.arrayOver (.object "Overwalks$Walk") ∈ tables_1 ∧ Cond.arrayOver (.array .int) ∈ tables_1 := by decide +kernel
def nFs : List Nat := [4, 4, 5, 9, 7, 2, 14]
theorem ni_e : ∀ c, c < 7 → Cond.instantiable (CN c) (nFs.getD c 0) ∈ tables_1 := by decide +kernel
end
section
/-! 60.start -/
/-! the law's first frame -/
/-- the constants -/
def K0 (L : Nat) (xs : Nat → Int32) : AH := fun i => if i = 0 then .inl (0, L, .inl xs) else if 1 ≤ i ∧ i ≤ 5 then .inr (7, [.int (bI (kP i)), .int (bI (kN i)), .int (bI (kE i))]) else if i = 6 then .inl (2, 100, .inl (fun j => Int32.ofNat (48 + j / 10))) else if i = 7 then .inl (2, 100, .inl (fun j => Int32.ofNat (48 + j % 10))) else if i = 40 then .inr (0, [.ref 41, .int 0]) else if i = 41 then .inl (2, 1, .inl (fun _ => 33)) else if i = 48 then .inr (0, [.ref 49, .int 0]) else if i = 49 then .inl (2, 0, .inl (fun _ => 0)) else if i = 50 then .inr (0, [.ref 51, .int 0]) else if i = 51 then .inl (2, 1, .inl (fun _ => 32)) else if i = 52 then .inr (0, [.ref 53, .int 0]) else if i = 53 then .inl (2, 1, .inl (fun _ => 45)) else if i = 54 then .inr (0, [.ref 55, .int 0]) else if i = 55 then .inl (2, 1, .inl (fun _ => 47)) else .inl (5, 0, .inl (fun _ => 0))
theorem K0_inr {L : Nat} {xs : Nat → Int32} {i ci : Nat} {fs : List Value} (h : K0 L xs i = .inr (ci, fs)) : ((1 ≤ i ∧ i ≤ 5) ∧ ci = 7 ∧ fs = [.int (bI (kP i)), .int (bI (kN i)), .int (bI (kE i))]) ∨ ((i = 40) ∧ ci = 0 ∧ fs = [.ref 41, .int 0]) ∨ ((i = 48) ∧ ci = 0 ∧ fs = [.ref 49, .int 0]) ∨ ((i = 50) ∧ ci = 0 ∧ fs = [.ref 51, .int 0]) ∨ ((i = 52) ∧ ci = 0 ∧ fs = [.ref 53, .int 0]) ∨ ((i = 54) ∧ ci = 0 ∧ fs = [.ref 55, .int 0]) := by
  unfold K0 at h
  by_cases d0 : i = 0
  · rw [if_pos d0] at h
    cases h
  rw [if_neg d0] at h
  by_cases d1 : 1 ≤ i ∧ i ≤ 5
  · rw [if_pos d1] at h
    cases h
    exact Or.inl ⟨d1, rfl, rfl⟩
  rw [if_neg d1] at h
  by_cases d2 : i = 6
  · rw [if_pos d2] at h
    cases h
  rw [if_neg d2] at h
  by_cases d3 : i = 7
  · rw [if_pos d3] at h
    cases h
  rw [if_neg d3] at h
  by_cases d4 : i = 40
  · rw [if_pos d4] at h
    cases h
    exact Or.inr (Or.inl ⟨d4, rfl, rfl⟩)
  rw [if_neg d4] at h
  by_cases d5 : i = 41
  · rw [if_pos d5] at h
    cases h
  rw [if_neg d5] at h
  by_cases d6 : i = 48
  · rw [if_pos d6] at h
    cases h
    exact Or.inr (Or.inr (Or.inl ⟨d6, rfl, rfl⟩))
  rw [if_neg d6] at h
  by_cases d7 : i = 49
  · rw [if_pos d7] at h
    cases h
  rw [if_neg d7] at h
  by_cases d8 : i = 50
  · rw [if_pos d8] at h
    cases h
    exact Or.inr (Or.inr (Or.inr (Or.inl ⟨d8, rfl, rfl⟩)))
  rw [if_neg d8] at h
  by_cases d9 : i = 51
  · rw [if_pos d9] at h
    cases h
  rw [if_neg d9] at h
  by_cases d10 : i = 52
  · rw [if_pos d10] at h
    cases h
    exact Or.inr (Or.inr (Or.inr (Or.inr (Or.inl ⟨d10, rfl, rfl⟩))))
  rw [if_neg d10] at h
  by_cases d11 : i = 53
  · rw [if_pos d11] at h
    cases h
  rw [if_neg d11] at h
  by_cases d12 : i = 54
  · rw [if_pos d12] at h
    cases h
    exact Or.inr (Or.inr (Or.inr (Or.inr (Or.inr (⟨d12, rfl, rfl⟩)))))
  rw [if_neg d12] at h
  by_cases d13 : i = 55
  · rw [if_pos d13] at h
    cases h
  rw [if_neg d13] at h
  cases h
theorem K0_inl {L : Nat} {xs : Nat → Int32} {i t n : Nat} {f : Nat → Int32} (h : K0 L xs i = .inl (t, n, .inl f)) (ht : t < 3) : ((i = 0) ∧ t = 0 ∧ n = L ∧ f = xs) ∨ ((i = 6) ∧ t = 2 ∧ n = 100 ∧ f = (fun j => Int32.ofNat (48 + j / 10))) ∨ ((i = 7) ∧ t = 2 ∧ n = 100 ∧ f = (fun j => Int32.ofNat (48 + j % 10))) ∨ ((i = 41) ∧ t = 2 ∧ n = 1 ∧ f = (fun _ => 33)) ∨ ((i = 49) ∧ t = 2 ∧ n = 0 ∧ f = (fun _ => 0)) ∨ ((i = 51) ∧ t = 2 ∧ n = 1 ∧ f = (fun _ => 32)) ∨ ((i = 53) ∧ t = 2 ∧ n = 1 ∧ f = (fun _ => 45)) ∨ ((i = 55) ∧ t = 2 ∧ n = 1 ∧ f = (fun _ => 47)) := by
  unfold K0 at h
  by_cases d0 : i = 0
  · rw [if_pos d0] at h
    cases h
    exact Or.inl ⟨d0, rfl, rfl, rfl⟩
  rw [if_neg d0] at h
  by_cases d1 : 1 ≤ i ∧ i ≤ 5
  · rw [if_pos d1] at h
    cases h
  rw [if_neg d1] at h
  by_cases d2 : i = 6
  · rw [if_pos d2] at h
    cases h
    exact Or.inr (Or.inl ⟨d2, rfl, rfl, rfl⟩)
  rw [if_neg d2] at h
  by_cases d3 : i = 7
  · rw [if_pos d3] at h
    cases h
    exact Or.inr (Or.inr (Or.inl ⟨d3, rfl, rfl, rfl⟩))
  rw [if_neg d3] at h
  by_cases d4 : i = 40
  · rw [if_pos d4] at h
    cases h
  rw [if_neg d4] at h
  by_cases d5 : i = 41
  · rw [if_pos d5] at h
    cases h
    exact Or.inr (Or.inr (Or.inr (Or.inl ⟨d5, rfl, rfl, rfl⟩)))
  rw [if_neg d5] at h
  by_cases d6 : i = 48
  · rw [if_pos d6] at h
    cases h
  rw [if_neg d6] at h
  by_cases d7 : i = 49
  · rw [if_pos d7] at h
    cases h
    exact Or.inr (Or.inr (Or.inr (Or.inr (Or.inl ⟨d7, rfl, rfl, rfl⟩))))
  rw [if_neg d7] at h
  by_cases d8 : i = 50
  · rw [if_pos d8] at h
    cases h
  rw [if_neg d8] at h
  by_cases d9 : i = 51
  · rw [if_pos d9] at h
    cases h
    exact Or.inr (Or.inr (Or.inr (Or.inr (Or.inr (Or.inl ⟨d9, rfl, rfl, rfl⟩)))))
  rw [if_neg d9] at h
  by_cases d10 : i = 52
  · rw [if_pos d10] at h
    cases h
  rw [if_neg d10] at h
  by_cases d11 : i = 53
  · rw [if_pos d11] at h
    cases h
    exact Or.inr (Or.inr (Or.inr (Or.inr (Or.inr (Or.inr (Or.inl ⟨d11, rfl, rfl, rfl⟩))))))
  rw [if_neg d11] at h
  by_cases d12 : i = 54
  · rw [if_pos d12] at h
    cases h
  rw [if_neg d12] at h
  by_cases d13 : i = 55
  · rw [if_pos d13] at h
    cases h
    exact Or.inr (Or.inr (Or.inr (Or.inr (Or.inr (Or.inr (Or.inr (⟨d13, rfl, rfl, rfl⟩)))))))
  rw [if_neg d13] at h
  cases h; exact absurd ht (by decide +kernel)
theorem K0_cl {L : Nat} {xs : Nat → Int32} {i : Nat} : clE nC (K0 L xs i) := by
  unfold K0
  by_cases d0 : i = 0
  · rw [if_pos d0]
    trivial
  rw [if_neg d0]
  by_cases d1 : 1 ≤ i ∧ i ≤ 5
  · rw [if_pos d1]
    intro v hv j e
    simp only [List.mem_cons, List.not_mem_nil, or_false] at hv
    rcases hv with rfl | rfl | rfl <;> cases e
  rw [if_neg d1]
  by_cases d2 : i = 6
  · rw [if_pos d2]
    trivial
  rw [if_neg d2]
  by_cases d3 : i = 7
  · rw [if_pos d3]
    trivial
  rw [if_neg d3]
  by_cases d4 : i = 40
  · rw [if_pos d4]
    intro v hv j e
    simp only [List.mem_cons, List.not_mem_nil, or_false] at hv
    rcases hv with rfl | rfl <;> cases e
    exact (by decide +kernel)
  rw [if_neg d4]
  by_cases d5 : i = 41
  · rw [if_pos d5]
    trivial
  rw [if_neg d5]
  by_cases d6 : i = 48
  · rw [if_pos d6]
    intro v hv j e
    simp only [List.mem_cons, List.not_mem_nil, or_false] at hv
    rcases hv with rfl | rfl <;> cases e
    exact (by decide +kernel)
  rw [if_neg d6]
  by_cases d7 : i = 49
  · rw [if_pos d7]
    trivial
  rw [if_neg d7]
  by_cases d8 : i = 50
  · rw [if_pos d8]
    intro v hv j e
    simp only [List.mem_cons, List.not_mem_nil, or_false] at hv
    rcases hv with rfl | rfl <;> cases e
    exact (by decide +kernel)
  rw [if_neg d8]
  by_cases d9 : i = 51
  · rw [if_pos d9]
    trivial
  rw [if_neg d9]
  by_cases d10 : i = 52
  · rw [if_pos d10]
    intro v hv j e
    simp only [List.mem_cons, List.not_mem_nil, or_false] at hv
    rcases hv with rfl | rfl <;> cases e
    exact (by decide +kernel)
  rw [if_neg d10]
  by_cases d11 : i = 53
  · rw [if_pos d11]
    trivial
  rw [if_neg d11]
  by_cases d12 : i = 54
  · rw [if_pos d12]
    intro v hv j e
    simp only [List.mem_cons, List.not_mem_nil, or_false] at hv
    rcases hv with rfl | rfl <;> cases e
    exact (by decide +kernel)
  rw [if_neg d12]
  by_cases d13 : i = 55
  · rw [if_pos d13]
    trivial
  rw [if_neg d13]
  trivial
theorem K0_kd {L : Nat} {xs : Nat → Int32} {k : Nat} (h1 : 1 ≤ k) (h2 : k ≤ 5) : KdF (K0 L xs) k := ⟨⟨h1, h2⟩, (if_neg (by omega)).trans (if_pos ⟨h1, h2⟩)⟩
theorem K0_tx {L : Nat} {xs : Nat → Int32} : TXT (K0 L xs) := ⟨⟨_, rfl⟩, ⟨_, rfl⟩, ⟨49, _, [], rfl, rfl, fun _ => rfl, by decide +kernel, by decide +kernel⟩, ⟨51, _, [], rfl, rfl, fun _ => rfl, by decide +kernel, by decide +kernel⟩, ⟨53, _, [], rfl, rfl, fun _ => rfl, by decide +kernel, by decide +kernel⟩, ⟨55, _, [], rfl, rfl, fun _ => rfl, by decide +kernel, by decide +kernel⟩, ⟨41, _, [], rfl, rfl, fun _ => rfl, by decide +kernel, by decide +kernel⟩⟩
theorem st_of {A : Array Value} {s : State} {F : Nat → Prop} {t : Term} {N : Nat} {b : Int32} (hN : N < 2 ^ 31) (h1 : (Cond.exactly t "java/lang/String").before A s = true) (h2 : (Cond.eq (.field t "java/lang/String" "coder" "B") (.int 0)).before A s = true) (h3 : (Cond.arrayOf (.field t "java/lang/String" "value" "[B") .byte).before A s = true) (h4 : (Cond.eq (.length (.field t "java/lang/String" "value" "[B")) (.int (Int32.ofNat N))).before A s = true) (h5 : ∀ j, j < N → (Cond.eq (.elem (.field t "java/lang/String" "value" "[B") (.int (Int32.ofNat j))) (.int b)).before A s = true) (hF : ∀ a : Nat, a < s.heap.size → ¬ F a) :
    ∃ a v : Nat, t.eval A s none [] s = some (.ref a) ∧ va_O "java/lang/String" a F s s.heap ∧ va_OF "java/lang/String" "coder" "B" (.int 0) a F s s.heap ∧ va_OF "java/lang/String" "value" "[B" (.ref v) a F s s.heap ∧ va_T .byte v N (fun _ => .int b) F s s.heap := by
  obtain ⟨a, c, cA, kA, q1, q2, q3, q4, q5, q6, -⟩ := Cond.exactly_spec (args := A) (first := s) (o := none) (s := s) (idx := []) (t := t) (cls := "java/lang/String") h1
  obtain ⟨v, hv, hT⟩ := va_Tof (f := fun _ => .int b) (A := F) hN h3 (va_eqt h4) (fun j hj => va_eqt (h5 j hj)) hF
  exact ⟨a, v, q1, ⟨cA, q3, q5, by rw [q6]; exact q2, hF a (Array.getElem?_eq_some_iff.mp q3).1⟩, vk_OFof q1 (va_eqt h2) hF, vk_OFof q1 hv hF, hT⟩
theorem ev_of {A : Array Value} {s : State} {t : Term} (h : (Cond.exactly t "java/lang/String").before A s = true) : ∃ a : Nat, t.eval A s none [] s = some (.ref a) := by
  obtain ⟨a, c, cA, kA, q1, -⟩ := Cond.exactly_spec (args := A) (first := s) (o := none) (s := s) (idx := []) (t := t) (cls := "java/lang/String") h
  exact ⟨a, q1⟩
theorem eq_of {A : Array Value} {s : State} {t u : Term} {a b : Nat} (h : (Cond.eq t u).before A s = true) (ht : t.eval A s none [] s = some (.ref a)) (hu : u.eval A s none [] s = some (.ref b)) : a = b := by
  simp [Cond.before, Cond.holds, Cond.value, ht, hu] at h
  exact h
theorem ac_of {A : Array Value} {s : State} {ty : FieldType} (h : (Cond.arrayClass ty).before A s = true) : ∃ c, ArrOfT s c ty ∧ s.vm.findClass ("[" ++ ty.toString) = some c := by
  obtain ⟨c, k, comp, f1, f2, f3⟩ := Cond.arrayClass_spec (args := A) (first := s) (o := none) (s := s) (idx := []) h
  exact ⟨c, fun N z => ⟨fun k h => (by cases h), k, f2, comp, f3⟩, f1⟩
theorem ao_of {A : Array Value} {s : State} {C : String} (h : (Cond.arrayOver (.object C)).before A s = true) : ∃ c, ArrOfT s c (.object C) ∧ va_RA s c (.object C) := by
  obtain ⟨comp, c, k, f1, -, f2, f3, f4⟩ := Cond.arrayOver_spec (args := A) (first := s) (o := none) (s := s) (idx := []) h
  exact ⟨c, fun N z => ⟨fun k h => (by cases h), k, f2, comp, f3⟩, k, comp, f2, f3, f1, f4⟩
theorem aa_of {A : Array Value} {s : State} (h : (Cond.arrayOver (.array .int)).before A s = true) : ∃ c, ArrOfT s c (.array .int) ∧ va_RA s c (.array .int) := by
  obtain ⟨comp, c, k, f1, f2, f3, f4⟩ := Cond.arrayOver_specA (args := A) (first := s) (o := none) (s := s) (idx := []) h
  exact ⟨c, fun N z => ⟨fun k h => (by cases h), k, f2, comp, f3⟩, f4⟩
theorem first_frame {p : Program} {l : Launch} {s : State} {m : MethodId} {meth : Method} {c : Code} {b L : Nat} {xs : Nat → Int32} (hst : l.stackTraces = false) (hx : p.tables.exec = Jvm.exec) (hb : c.code = code) (hr : meth.sig.returnType = ret) (hml : c.maxLocals = 7) (hown : s.vm.findClass "OverwalksLaw" = some m.cls) (hts : ∀ w ∈ lw_tbl, w.before #[Value.ref b] s = true) (hX : va_X b L xs s s.heap) (hL : L ≤ 3072) (hlk : meth.locks = false) (hn : narrow_1.before #[Value.ref b] s = true) (htb : c.exceptionTable.toList = []) :
    ∃ (G : GD), CX SR0 G ML_law p l s m #[Value.ref b] meth c (fun q => s.heap.size ≤ q) ∧ G.2.2.1 0 = b ∧ G.2.2.2 = K0 L xs := by
  have hA : ∀ a : Nat, a < s.heap.size → ¬ (fun q => s.heap.size ≤ q) a := fun a h g => absurd (Nat.lt_of_lt_of_le h g) (Nat.lt_irrefl _)
  have htt : ∀ w ∈ tables_1, w.before #[Value.ref b] s = true := fun w hw => hts w (List.mem_append_right _ (List.mem_append_left _ hw))
  have hin : ∀ C ∈ ["Overwalks$Kind", "java/lang/Integer", "java/lang/String", "java/lang/Throwable"], (Cond.initialized C).before #[Value.ref b] s = true := fun C h => htt _ (in_e C h)
  obtain ⟨aK, hE, eK⟩ := va_Enof2 (A := fun q => s.heap.size ≤ q) (F := FK) (fun i hi => htt _ (kd_l i hi)) (hin _ (by decide +kernel)) (kd_x hn) (kd_f hn) (kd_d hn) hA
  obtain ⟨dt, et, hdt⟩ := va_Tof (f := fun j => .int (Int32.ofNat (48 + j / 10))) (A := fun q => s.heap.size ≤ q) (by decide +kernel) (dg_ta hn) (va_eqt (dg_tl hn)) (fun j hj => va_eqt (dg_t hn j hj)) hA
  obtain ⟨dn, eo, hdo⟩ := va_Tof (f := fun j => .int (Int32.ofNat (48 + j % 10))) (A := fun q => s.heap.size ≤ q) (by decide +kernel) (dg_oa hn) (va_eqt (dg_ol hn)) (fun j hj => va_eqt (dg_o hn j hj)) hA
  obtain ⟨a10, e0⟩ := ev_of (sx_0 hn)
  obtain ⟨a12, e1⟩ := ev_of (sx_1 hn)
  obtain ⟨a14, e2⟩ := ev_of (sx_2 hn)
  obtain ⟨a16, e3⟩ := ev_of (sx_3 hn)
  obtain ⟨a18, e4⟩ := ev_of (sx_4 hn)
  obtain ⟨a20, e5⟩ := ev_of (sx_5 hn)
  obtain ⟨a22, e6⟩ := ev_of (sx_6 hn)
  obtain ⟨a24, e7⟩ := ev_of (sx_7 hn)
  obtain ⟨a26, e8⟩ := ev_of (sx_8 hn)
  obtain ⟨a28, e9⟩ := ev_of (sx_9 hn)
  obtain ⟨a30, e10⟩ := ev_of (sx_10 hn)
  obtain ⟨a32, e11⟩ := ev_of (sx_11 hn)
  obtain ⟨a34, e12⟩ := ev_of (sx_12 hn)
  obtain ⟨a36, e13⟩ := ev_of (sx_13 hn)
  obtain ⟨a38, e14⟩ := ev_of (sx_14 hn)
  obtain ⟨a40, v40, e20, hO40, hc40, hv40, hT40⟩ := st_of (F := fun q => s.heap.size ≤ q) (by decide +kernel) (sx_20 hn) (tx_40c hn) (tx_40a hn) (tx_40l hn) (tx_40e hn) hA
  obtain ⟨a42, e16⟩ := ev_of (sx_16 hn)
  obtain ⟨a44, e17⟩ := ev_of (sx_17 hn)
  obtain ⟨a46, e18⟩ := ev_of (sx_18 hn)
  obtain ⟨a48, v48, e19, hO48, hc48, hv48, hT48⟩ := st_of (F := fun q => s.heap.size ≤ q) (by decide +kernel) (sx_19 hn) (tx_48c hn) (tx_48a hn) (tx_48l hn) (tx_48e hn) hA
  obtain ⟨a50, v50, e21, hO50, hc50, hv50, hT50⟩ := st_of (F := fun q => s.heap.size ≤ q) (by decide +kernel) (sx_21 hn) (tx_50c hn) (tx_50a hn) (tx_50l hn) (tx_50e hn) hA
  obtain ⟨a52, v52, e22, hO52, hc52, hv52, hT52⟩ := st_of (F := fun q => s.heap.size ≤ q) (by decide +kernel) (sx_22 hn) (tx_52c hn) (tx_52a hn) (tx_52l hn) (tx_52e hn) hA
  obtain ⟨a54, v54, e23, hO54, hc54, hv54, hT54⟩ := st_of (F := fun q => s.heap.size ≤ q) (by decide +kernel) (sx_23 hn) (tx_54c hn) (tx_54a hn) (tx_54l hn) (tx_54e hn) hA
  obtain ⟨z15, e15⟩ := ev_of (sx_15 hn)
  have y15 := (eq_of (two_e hn) e15 e20).symm
  subst y15
  obtain ⟨c0, p0, q0⟩ := ac_of (htt _ ar_e.1.1)
  obtain ⟨c1, p1, q1⟩ := ac_of (htt _ ar_e.1.2.1)
  obtain ⟨c2, p2, q2⟩ := ac_of (htt _ ar_e.1.2.2)
  obtain ⟨c3, p3, q3⟩ := ao_of (htt _ ar_e.2.1)
  obtain ⟨c4, p4, q4⟩ := ao_of (htt _ ar_e.2.2.1)
  obtain ⟨c5, p5, q5⟩ := aa_of (htt _ ar_e.2.2.2)
  have hk : ∀ c : Nat, ∃ q : ClassId × (Nat → Nat), c < 7 → u_Kn s (CN c) (FT c) (FN c) q.1 q.2 := by
    intro c
    by_cases hc : c < 7
    · obtain ⟨cC, iS, h⟩ := u_known (ws := lw_tbl) (T := FT c) (N := FN c) hts (fun w hw => (List.mem_filter.mp (cls_ws hc w hw)).1) (htt _ (ni_e c hc))
      exact ⟨(cC, iS), fun _ => h⟩
    · exact ⟨(c0, fun _ => 0), fun h => absurd h hc⟩
  obtain ⟨qK, hqK⟩ := Classical.axiomOfChoice hk
  refine ⟨((fun c => (qK c).1, fun c => (qK c).2), (fun k => if k = 0 then c0 else if k = 1 then c1 else if k = 2 then c2 else if k = 3 then c3 else if k = 4 then c4 else c5), (fun k => if k = 0 then b else if k < 6 then aK (k - 1) else if k = 6 then dt else if k = 7 then dn else if k = 10 then a10 else if k = 12 then a12 else if k = 14 then a14 else if k = 16 then a16 else if k = 18 then a18 else if k = 20 then a20 else if k = 22 then a22 else if k = 24 then a24 else if k = 26 then a26 else if k = 28 then a28 else if k = 30 then a30 else if k = 32 then a32 else if k = 34 then a34 else if k = 36 then a36 else if k = 38 then a38 else if k = 40 then a40 else if k = 41 then v40 else if k = 42 then a42 else if k = 44 then a44 else if k = 46 then a46 else if k = 48 then a48 else if k = 49 then v48 else if k = 50 then a50 else if k = 51 then v50 else if k = 52 then a52 else if k = 53 then v52 else if k = 54 then a54 else if k = 55 then v54 else 0), K0 L xs), ⟨hx, hb, hr, hml, hown, fun w hw => hts w (List.mem_filter.mp hw).1, hlk, htb, hst, fun e => absurd e (by decide +kernel), ⟨?_, ?_⟩, ?_, ?_, ⟨htt _ ar_e.2.1, htt _ ar_e.2.2.1, htt _ ar_e.2.2.2, fun q hq => va_Nc.of (xp_e hn q hq)⟩, ⟨?_, ?_, ?_, vx_Zqof (htt _ ls_e.2.1) (hin _ (by decide +kernel)) (th_u hn) hA, vx_Zqof (htt _ ls_e.2.2) (hin _ (by decide +kernel)) (th_s hn) hA, ?_⟩, fun q h => h⟩, rfl, rfl⟩
  · intro c r hc
    have h7 := vwCl_lt hc
    cases Option.some.inj (hc.symm.trans (vwCl_at h7))
    exact hqK c h7
  · intro k q hk
    have h6 : k < 6 := (List.getElem?_eq_some_iff.mp hk).1
    rcases (show k = 0 ∨ k = 1 ∨ k = 2 ∨ k = 3 ∨ k = 4 ∨ k = 5 by omega) with rfl | rfl | rfl | rfl | rfl | rfl <;> cases hk
    · exact ⟨p0, q0⟩
    · exact ⟨p1, q1⟩
    · exact ⟨p2, q2⟩
    · exact ⟨p3, q3⟩
    · exact ⟨p4, q4⟩
    · exact ⟨p5, q5⟩
  · intro w hw
    obtain ⟨h1, h2⟩ := List.mem_filter.mp hw
    have h3 := hts w h1
    cases w <;> first | (simp [nwf] at h2; done) | exact va_Nw.of rfl h3
  · intro q hq
    have hw := htt _ (sr_r q hq)
    unfold SR0 at hq
    simp only [List.mem_cons, List.not_mem_nil, or_false] at hq
    rcases hq with rfl | rfl | rfl | rfl | rfl | rfl | rfl | rfl | rfl | rfl | rfl | rfl | rfl | rfl | rfl | rfl | rfl | rfl | rfl | rfl | rfl | rfl | rfl | rfl
    · exact vk_R.of hw e0
    · exact vk_R.of hw e1
    · exact vk_R.of hw e2
    · exact vk_R.of hw e3
    · exact vk_R.of hw e4
    · exact vk_R.of hw e5
    · exact vk_R.of hw e6
    · exact vk_R.of hw e7
    · exact vk_R.of hw e8
    · exact vk_R.of hw e9
    · exact vk_R.of hw e10
    · exact vk_R.of hw e11
    · exact vk_R.of hw e12
    · exact vk_R.of hw e13
    · exact vk_R.of hw e14
    · exact vk_R.of hw e15
    · exact vk_R.of hw e16
    · exact vk_R.of hw e17
    · exact vk_R.of hw e18
    · exact vk_R.of hw e19
    · exact vk_R.of hw e20
    · exact vk_R.of hw e21
    · exact vk_R.of hw e22
    · exact vk_R.of hw e23
  · intro i ci fs hi hf
    rcases K0_inr hf with ⟨hc9, rfl, rfl⟩ | ⟨hc9, rfl, rfl⟩ | ⟨hc9, rfl, rfl⟩ | ⟨hc9, rfl, rfl⟩ | ⟨hc9, rfl, rfl⟩ | ⟨hc9, rfl, rfl⟩
    · have e9 : (fun k => if k = 0 then b else if k < 6 then aK (k - 1) else if k = 6 then dt else if k = 7 then dn else if k = 10 then a10 else if k = 12 then a12 else if k = 14 then a14 else if k = 16 then a16 else if k = 18 then a18 else if k = 20 then a20 else if k = 22 then a22 else if k = 24 then a24 else if k = 26 then a26 else if k = 28 then a28 else if k = 30 then a30 else if k = 32 then a32 else if k = 34 then a34 else if k = 36 then a36 else if k = 38 then a38 else if k = 40 then a40 else if k = 41 then v40 else if k = 42 then a42 else if k = 44 then a44 else if k = 46 then a46 else if k = 48 then a48 else if k = 49 then v48 else if k = 50 then a50 else if k = 51 then v50 else if k = 52 then a52 else if k = 53 then v52 else if k = 54 then a54 else if k = 55 then v54 else 0) i = aK (i - 1) := (if_neg (by omega)).trans (if_pos (by omega))
      have h9 := hE.1 (i - 1) (by show i - 1 < 5; omega)
      show va_O (CN 7) ((fun k => if k = 0 then b else if k < 6 then aK (k - 1) else if k = 6 then dt else if k = 7 then dn else if k = 10 then a10 else if k = 12 then a12 else if k = 14 then a14 else if k = 16 then a16 else if k = 18 then a18 else if k = 20 then a20 else if k = 22 then a22 else if k = 24 then a24 else if k = 26 then a26 else if k = 28 then a28 else if k = 30 then a30 else if k = 32 then a32 else if k = 34 then a34 else if k = 36 then a36 else if k = 38 then a38 else if k = 40 then a40 else if k = 41 then v40 else if k = 42 then a42 else if k = 44 then a44 else if k = 46 then a46 else if k = 48 then a48 else if k = 49 then v48 else if k = 50 then a50 else if k = 51 then v50 else if k = 52 then a52 else if k = 53 then v52 else if k = 54 then a54 else if k = 55 then v54 else 0) i) _ _ _ ∧ ∀ (k : Nat) (v : Value), _ → va_OF _ _ _ _ ((fun k => if k = 0 then b else if k < 6 then aK (k - 1) else if k = 6 then dt else if k = 7 then dn else if k = 10 then a10 else if k = 12 then a12 else if k = 14 then a14 else if k = 16 then a16 else if k = 18 then a18 else if k = 20 then a20 else if k = 22 then a22 else if k = 24 then a24 else if k = 26 then a26 else if k = 28 then a28 else if k = 30 then a30 else if k = 32 then a32 else if k = 34 then a34 else if k = 36 then a36 else if k = 38 then a38 else if k = 40 then a40 else if k = 41 then v40 else if k = 42 then a42 else if k = 44 then a44 else if k = 46 then a46 else if k = 48 then a48 else if k = 49 then v48 else if k = 50 then a50 else if k = 51 then v50 else if k = 52 then a52 else if k = 53 then v52 else if k = 54 then a54 else if k = 55 then v54 else 0) i) _ _ _
      rw [e9]
      refine ⟨h9.2.1, fun k v hk => ?_⟩
      have h3 : k < 3 := (List.getElem?_eq_some_iff.mp hk).1
      have hq := h9.2.2
      rcases (show i = 1 ∨ i = 2 ∨ i = 3 ∨ i = 4 ∨ i = 5 by omega) with rfl | rfl | rfl | rfl | rfl <;> rcases (show k = 0 ∨ k = 1 ∨ k = 2 by omega) with rfl | rfl | rfl <;> cases hk
      · exact hq _ (List.mem_cons_self)
      · exact hq _ (List.mem_cons_of_mem _ List.mem_cons_self)
      · exact hq _ (List.mem_cons_of_mem _ (List.mem_cons_of_mem _ List.mem_cons_self))
      · exact hq _ (List.mem_cons_self)
      · exact hq _ (List.mem_cons_of_mem _ List.mem_cons_self)
      · exact hq _ (List.mem_cons_of_mem _ (List.mem_cons_of_mem _ List.mem_cons_self))
      · exact hq _ (List.mem_cons_self)
      · exact hq _ (List.mem_cons_of_mem _ List.mem_cons_self)
      · exact hq _ (List.mem_cons_of_mem _ (List.mem_cons_of_mem _ List.mem_cons_self))
      · exact hq _ (List.mem_cons_self)
      · exact hq _ (List.mem_cons_of_mem _ List.mem_cons_self)
      · exact hq _ (List.mem_cons_of_mem _ (List.mem_cons_of_mem _ List.mem_cons_self))
      · exact hq _ (List.mem_cons_self)
      · exact hq _ (List.mem_cons_of_mem _ List.mem_cons_self)
      · exact hq _ (List.mem_cons_of_mem _ (List.mem_cons_of_mem _ List.mem_cons_self))
    · subst hc9
      refine ⟨hO40, fun k v hk => ?_⟩
      have h2 : k < 2 := (List.getElem?_eq_some_iff.mp hk).1
      rcases (show k = 0 ∨ k = 1 by omega) with rfl | rfl <;> cases hk
      · exact hv40
      · exact hc40
    · subst hc9
      refine ⟨hO48, fun k v hk => ?_⟩
      have h2 : k < 2 := (List.getElem?_eq_some_iff.mp hk).1
      rcases (show k = 0 ∨ k = 1 by omega) with rfl | rfl <;> cases hk
      · exact hv48
      · exact hc48
    · subst hc9
      refine ⟨hO50, fun k v hk => ?_⟩
      have h2 : k < 2 := (List.getElem?_eq_some_iff.mp hk).1
      rcases (show k = 0 ∨ k = 1 by omega) with rfl | rfl <;> cases hk
      · exact hv50
      · exact hc50
    · subst hc9
      refine ⟨hO52, fun k v hk => ?_⟩
      have h2 : k < 2 := (List.getElem?_eq_some_iff.mp hk).1
      rcases (show k = 0 ∨ k = 1 by omega) with rfl | rfl <;> cases hk
      · exact hv52
      · exact hc52
    · subst hc9
      refine ⟨hO54, fun k v hk => ?_⟩
      have h2 : k < 2 := (List.getElem?_eq_some_iff.mp hk).1
      rcases (show k = 0 ∨ k = 1 by omega) with rfl | rfl <;> cases hk
      · exact hv54
      · exact hc54
  · intro i t n f hi hf ht
    rcases K0_inl hf ht with ⟨rfl, rfl, rfl, rfl⟩ | ⟨rfl, rfl, rfl, rfl⟩ | ⟨rfl, rfl, rfl, rfl⟩ | ⟨rfl, rfl, rfl, rfl⟩ | ⟨rfl, rfl, rfl, rfl⟩ | ⟨rfl, rfl, rfl, rfl⟩ | ⟨rfl, rfl, rfl, rfl⟩ | ⟨rfl, rfl, rfl, rfl⟩
    · obtain ⟨scr, g1, g2, g3, g4, g5⟩ := hX
      exact ⟨scr, g1, g2, g3, Nat.le_of_eq g4.symm, congrArg Nat.toInt32 g4, g5, hA _ (Array.getElem?_eq_some_iff.mp g1).1⟩
    · exact hdt
    · exact hdo
    · exact hT40
    · exact hT48
    · exact hT50
    · exact hT52
    · exact hT54
  · intro q hq
    unfold ST at hq
    simp only [List.mem_cons, List.not_mem_nil, or_false] at hq
    rcases hq with rfl | rfl | rfl | rfl | rfl | rfl | rfl | rfl
    · exact (hE.1 0 (by decide +kernel)).1
    · exact (hE.1 1 (by decide +kernel)).1
    · exact (hE.1 2 (by decide +kernel)).1
    · exact (hE.1 3 (by decide +kernel)).1
    · exact (hE.1 4 (by decide +kernel)).1
    · exact va_Zref (htt _ ls_e.1.1) (hin _ (by decide +kernel)) et hA
    · exact va_Zref (htt _ ls_e.1.2.1) (hin _ (by decide +kernel)) eo hA
    · exact va_Zof (htt _ ls_e.1.2.2) (hin _ (by decide +kernel)) (va_eqi (cs_e hn)) hA
  · intro i j h1 h2 h3 h4 e
    have ei : (fun k => if k = 0 then b else if k < 6 then aK (k - 1) else if k = 6 then dt else if k = 7 then dn else if k = 10 then a10 else if k = 12 then a12 else if k = 14 then a14 else if k = 16 then a16 else if k = 18 then a18 else if k = 20 then a20 else if k = 22 then a22 else if k = 24 then a24 else if k = 26 then a26 else if k = 28 then a28 else if k = 30 then a30 else if k = 32 then a32 else if k = 34 then a34 else if k = 36 then a36 else if k = 38 then a38 else if k = 40 then a40 else if k = 41 then v40 else if k = 42 then a42 else if k = 44 then a44 else if k = 46 then a46 else if k = 48 then a48 else if k = 49 then v48 else if k = 50 then a50 else if k = 51 then v50 else if k = 52 then a52 else if k = 53 then v52 else if k = 54 then a54 else if k = 55 then v54 else 0) i = aK (i - 1) := (if_neg (by omega)).trans (if_pos (by omega))
    have ej : (fun k => if k = 0 then b else if k < 6 then aK (k - 1) else if k = 6 then dt else if k = 7 then dn else if k = 10 then a10 else if k = 12 then a12 else if k = 14 then a14 else if k = 16 then a16 else if k = 18 then a18 else if k = 20 then a20 else if k = 22 then a22 else if k = 24 then a24 else if k = 26 then a26 else if k = 28 then a28 else if k = 30 then a30 else if k = 32 then a32 else if k = 34 then a34 else if k = 36 then a36 else if k = 38 then a38 else if k = 40 then a40 else if k = 41 then v40 else if k = 42 then a42 else if k = 44 then a44 else if k = 46 then a46 else if k = 48 then a48 else if k = 49 then v48 else if k = 50 then a50 else if k = 51 then v50 else if k = 52 then a52 else if k = 53 then v52 else if k = 54 then a54 else if k = 55 then v54 else 0) j = aK (j - 1) := (if_neg (by omega)).trans (if_pos (by omega))
    have e9 := hE.2 (i - 1) (j - 1) (by show i - 1 < 5; omega) (by show j - 1 < 5; omega) (ei.symm.trans ((show (fun k => if k = 0 then b else if k < 6 then aK (k - 1) else if k = 6 then dt else if k = 7 then dn else if k = 10 then a10 else if k = 12 then a12 else if k = 14 then a14 else if k = 16 then a16 else if k = 18 then a18 else if k = 20 then a20 else if k = 22 then a22 else if k = 24 then a24 else if k = 26 then a26 else if k = 28 then a28 else if k = 30 then a30 else if k = 32 then a32 else if k = 34 then a34 else if k = 36 then a36 else if k = 38 then a38 else if k = 40 then a40 else if k = 41 then v40 else if k = 42 then a42 else if k = 44 then a44 else if k = 46 then a46 else if k = 48 then a48 else if k = 49 then v48 else if k = 50 then a50 else if k = 51 then v50 else if k = 52 then a52 else if k = 53 then v52 else if k = 54 then a54 else if k = 55 then v54 else 0) i = (fun k => if k = 0 then b else if k < 6 then aK (k - 1) else if k = 6 then dt else if k = 7 then dn else if k = 10 then a10 else if k = 12 then a12 else if k = 14 then a14 else if k = 16 then a16 else if k = 18 then a18 else if k = 20 then a20 else if k = 22 then a22 else if k = 24 then a24 else if k = 26 then a26 else if k = 28 then a28 else if k = 30 then a30 else if k = 32 then a32 else if k = 34 then a34 else if k = 36 then a36 else if k = 38 then a38 else if k = 40 then a40 else if k = 41 then v40 else if k = 42 then a42 else if k = 44 then a44 else if k = 46 then a46 else if k = 48 then a48 else if k = 49 then v48 else if k = 50 then a50 else if k = 51 then v50 else if k = 52 then a52 else if k = 53 then v52 else if k = 54 then a54 else if k = 55 then v54 else 0) j from e).trans ej))
    omega
end
