section
/-! 57.law -/
/-! the law's cases -/
theorem SW.bud {SR : SRT} {M : MI} {d bc bs bc' bs' pc n : Nat} {lv : List (Nat × Value)} {st : List Value} {h : AH} {Post : ARes → AH → Nat → Prop} (k : SW SR M d bc bs pc lv st h n Post) (h1 : bc ≤ bc') (h2 : bs ≤ bs') : SW SR M d bc' bs' pc lv st h n Post := by
  intro G p l e R s m args below meth c A ad0 n0 Q hc hr he H locs cells slots ls ad hm hl hx hbc hbs
  exact k G p l e R s m args below meth c A ad0 n0 Q hc hr he H locs cells slots ls ad hm hl hx (by omega) (by omega)
theorem lg_self (x : Int64) : lg_cmp x x = 0 := by
  unfold lg_cmp
  simp
/-- between two calls -/
def LI (L : Nat) (xs : Nat → Int32) (h : AH) (n : Nat) (σ : CS) (N : Nat) : Prop := RC h σ ∧ (∃ th, RMo h σ th) ∧ TXT h ∧ IV σ N ∧ (∃ w s, h 158 = .inr (5, [.long w, s])) ∧ h 0 = .inl (0, L, .inl xs) ∧ 159 ≤ n
section
variable {h : AH} {n n' : Nat} {t : ARes → Int32} {q : ARes × CS}
theorem lpo_k {A : Nat → AH → Option Value → Prop} {n0 : Nat} (k : ∀ h' n' w s, n ≤ n' → RC h' q.2 → h' 158 = .inr (5, [.long w, s]) → (∀ v, q.1 = rI v → w = v.toInt64) → (∀ i, i < 100 ∨ 135 ≤ i → i ≠ 158 → i < n → h' i = h i) → A n' h' (some (.int (t q.1)))) : ∀ (v : Option Value) (h' : AH) (n' : Nat), n0 ≤ n' → LPo h n t q (.inl v) h' n' → A n' h' v := by
  rintro v h' n' - ⟨e, g1, g2, ⟨w, s, g3, g4⟩, g5⟩
  cases e
  exact k h' n' w s g1 g2 g3 g4 g5
theorem lpt_k {A : Nat → AH → Option Value → Prop} {n0 : Nat} {c : List Int32} (k : ∀ h' n' w s, n ≤ n' → RC h' q.2 → h' 158 = .inr (5, [.long w, s]) → (q.1 = ivN → ∃ x L, s = .ref x ∧ L ≤ 200 ∧ StN h' n' n x L c) → (∀ i, i < 100 ∨ 135 ≤ i → i ≠ 158 → i < n → h' i = h i) → A n' h' (some (.int (t q.1)))) : ∀ (v : Option Value) (h' : AH) (n' : Nat), n0 ≤ n' → LPt h n t q c (.inl v) h' n' → A n' h' v := by
  rintro v h' n' - ⟨e, g1, g2, ⟨w, s, g3, g4⟩, g5⟩
  cases e
  exact k h' n' w s g1 g2 g3 g4 g5
theorem lpt_x {A : Prop} {E : String} {h' : AH} {n' : Nat} {c : List Int32} (z : LPt h n t q c (.inr E) h' n') : A := by cases z.1
theorem ptl_k {A : Nat → AH → Option Value → Prop} {n0 : Nat} {c : List Int32} (k : ∀ h' n' x, n ≤ n' → (q.1 = ivN → ∃ L, L ≤ 200 ∧ StN h' n' n x L c) → RMo h' q.2 (t q.1) → FrM h h' n → A n' h' (some (.ref x))) : ∀ (v : Option Value) (h' : AH) (n' : Nat), n0 ≤ n' → PT h n t q c (.inl v) h' n' → A n' h' v := by
  rintro v h' n' - ⟨g1, ⟨x, e, g2⟩, g3, g4⟩
  cases e
  exact k h' n' x g1 g2 g3 g4
theorem ot_0 {l : List String} {a b : String} (hO : OT l q) (e : tc a b q.1 = 0) : q.1 = ivN := by
  rcases hO with e2 | ⟨E, -, e2⟩
  · exact e2
  · exfalso
    rw [e2] at e
    have e3 : (if E = a then (1 : Int32) else if E = b then 2 else 3) = 0 := e
    split at e3
    · exact absurd e3 (by decide +kernel)
    · split at e3
      · exact absurd e3 (by decide +kernel)
      · exact absurd e3 (by decide +kernel)
theorem lpo_x {A : Prop} {E : String} {h' : AH} {n' : Nat} (z : LPo h n t q (.inr E) h' n') : A := by cases z.1
theorem pmc_k {A : Nat → AH → Option Value → Prop} {l : List String} {n0 : Nat} (hO : OX l q) (k : ∀ h' n' b, n ≤ n' → (∀ v, q.1 = rI v → b = v) → RMo h' q.2 (t q.1) → FrM h h' n → A n' h' (some (.int b))) : ∀ (v : Option Value) (h' : AH) (n' : Nat), n0 ≤ n' → PM h n t q (.inl v) h' n' → A n' h' v := by
  rintro v h' n' - ⟨e, g1, g2, g3⟩
  rcases hO with ⟨b, e2⟩ | ⟨E, -, e2⟩
  · have e3 : v = some (.int b) := by rw [e2] at e; exact Sum.inl.inj e
    rw [e3]
    exact k h' n' b g1 (fun v e4 => by rw [e2] at e4; exact Value.int.inj (Option.some.inj (Sum.inl.inj e4))) g2 g3
  · have e3 : v = some (.int 0) := by rw [e2] at e; exact Sum.inl.inj e
    rw [e3]
    exact k h' n' 0 g1 (fun v e4 => by rw [e2] at e4; cases e4) g2 g3
theorem pmc_x {A : Prop} {E : String} {h' : AH} {n' : Nat} (z : PM h n t q (.inr E) h' n') : A := by cases z.1
theorem ox_0 {l : List String} {a b : String} (hO : OX l q) (e : tc a b q.1 = 0) : ∃ v, q.1 = rI v := by
  rcases hO with e2 | ⟨E, -, e2⟩
  · exact e2
  · exfalso
    rw [e2] at e
    have e3 : (if E = a then (1 : Int32) else if E = b then 2 else 3) = 0 := e
    split at e3
    · exact absurd e3 (by decide +kernel)
    · split at e3
      · exact absurd e3 (by decide +kernel)
      · exact absurd e3 (by decide +kernel)
end
def ML_law : MI := (yL_law, cL_law, 7, (Option.some Jvm.ClassFile.FieldType.boolean), [])
theorem dpc_k {A : Nat → AH → Option Value → Prop} {h : AH} {n n0 : Nat} {σ : CS} (k : ∀ h' n', n ≤ n' → RMo h' σ 0 → FrM h h' n → A n' h' (some (.long (dgZ σ)))) : ∀ (v : Option Value) (h' : AH) (n' : Nat), n0 ≤ n' → DP h n σ (.inl v) h' n' → A n' h' v := by
  rintro v h' n' - ⟨e, g1, g2, g3⟩
  cases e
  exact k h' n' g1 g2 g3
theorem lc_0 {L : Nat} {xs : Nat → Int32} {h : AH} {n i N d bc bs : Nat} {σ : CS} {Post : ARes → AH → Nat → Prop} (hI : LI L xs h n σ N) (hN : N < 2 ^ 31) (hL : L ≤ 3072) (hi : i + 6 ≤ L) (hd : 20 ≤ d) (h1 : 380 ≤ bc) (h2 : 4500 ≤ bs) (K : ∀ (h' : AH) (n' : Nat) (σ' : CS), n ≤ n' → LI L xs h' n' σ' (N + 12) → SW SR0 ML_law d (bc - 380) (bs - 4500) 3123 [(4, .int (nI i)), (3, .ref 158), (2, .ref 135), (1, .ref 100), (0, .ref 0)] [] h' n' Post) : SW SR0 ML_law d bc bs 236 [(4, .int (nI i)), (3, .ref 158), (2, .ref 135), (1, .ref 100), (0, .ref 0)] [] h n Post := by
  obtain ⟨hR, ⟨th, hQ⟩, hT, hV, ⟨w, s, hO⟩, hs, hn⟩ := hI
  refine sw_aload_n (pc' := 237) rfl dL_law_236 rfl ?_
  refine sw_aload_n (pc' := 238) rfl dL_law_237 rfl ?_
  refine sw_iload (pc' := 240) rfl dL_law_238 rfl ?_
  refine sw_iconst (pc' := 241) (v := 1) rfl dL_law_240 (by decide +kernel) ?_
  refine sw_iadd (pc' := 242) rfl dL_law_241 ?_
  rw [show (nI i) + 1 = nI (i + 1) from nI_add _ _]
  refine sw_iald (j := i + 1) (pc' := 243) rfl dL_law_242 hs rfl (by omega) (by omega) ?_
  refine sw_aload_n (pc' := 244) rfl dL_law_243 rfl ?_
  refine sw_iload (pc' := 246) rfl dL_law_244 rfl ?_
  refine sw_iconst (pc' := 247) (v := 2) rfl dL_law_246 (by decide +kernel) ?_
  refine sw_iadd (pc' := 248) rfl dL_law_247 ?_
  rw [show (nI i) + 2 = nI (i + 2) from nI_add _ _]
  refine sw_iald (j := i + 2) (pc' := 249) rfl dL_law_248 hs rfl (by omega) (by omega) ?_
  refine sw_aload_n (pc' := 250) rfl dL_law_249 rfl ?_
  refine sw_S (M' := ML_put) (d' := d - 1) (bc' := 60) (bs' := 400) (as := [_, _, _, _]) dL_law_250 w_392 ok_L_put (L_put hR hT hV hN hO hn (by omega) (Nat.le_refl _) (Nat.le_refl _)) (by omega) (Nat.le_of_ble_eq_true rfl) (by omega) (by omega) (fun E h' n' _ z => lpo_x z) (lpo_k (fun p pn pw ps pk pR pO pv pF => ?_))
  refine sw_istore (pc' := 255) (lv' := [(5, _), (4, _), (3, _), (2, _), (1, _), (0, _)]) rfl dL_law_253 (by decide +kernel) rfl ?_
  refine sw_aload_n (pc' := 256) rfl dL_law_255 rfl ?_
  refine sw_aload_n (pc' := 257) rfl dL_law_256 rfl ?_
  refine sw_iload (pc' := 259) rfl dL_law_257 rfl ?_
  refine sw_iconst (pc' := 260) (v := 1) rfl dL_law_259 (by decide +kernel) ?_
  refine sw_iadd (pc' := 261) rfl dL_law_260 ?_
  rw [show (nI i) + 1 = nI (i + 1) from nI_add _ _]
  refine sw_iald (j := i + 1) (pc' := 262) rfl dL_law_261 ((pF 0 (by omega) (by omega) (by omega)).trans hs) rfl (by omega) (by omega) ?_
  refine sw_aload_n (pc' := 263) rfl dL_law_262 rfl ?_
  refine sw_iload (pc' := 265) rfl dL_law_263 rfl ?_
  refine sw_iconst (pc' := 266) (v := 2) rfl dL_law_265 (by decide +kernel) ?_
  refine sw_iadd (pc' := 267) rfl dL_law_266 ?_
  rw [show (nI i) + 2 = nI (i + 2) from nI_add _ _]
  refine sw_iald (j := i + 2) (pc' := 268) rfl dL_law_267 ((pF 0 (by omega) (by omega) (by omega)).trans hs) rfl (by omega) (by omega) ?_
  have hQ2 := hQ.fr (fun i a b => pF i (by omega) (by omega) (by omega))
  obtain ⟨ρ, τ, hM, hA⟩ := id hQ2
  refine sw_V (M' := MX5_put) (d' := d - 1) (bc' := 1) (bs' := 12) (ci := 6) (as := [_, _]) dL_law_268 w_1161 ok_X5_put (q_put hQ2 (hV.iv hN) (by omega) (by omega) (Nat.le_refl _) (Nat.le_refl _)) hM.ob rfl (by omega) (Nat.le_of_ble_eq_true rfl) (by omega) (by omega) (fun E h' n' _ z => pmc_x z) (pmc_k ox_put (fun u un ub uk uv uR uF => ?_))
  refine sw_istore (pc' := 273) (lv' := [(6, _), (5, _), (4, _), (3, _), (2, _), (1, _), (0, _)]) rfl dL_law_271 (by decide +kernel) rfl ?_
  refine sw_aload_n (pc' := 274) rfl dL_law_273 rfl ?_
  obtain ⟨uρ, uτ, uM, uA⟩ := id uR
  refine sw_V (M' := MX5_thrown) (d' := d - 1) (bc' := 0) (bs' := 0) (ci := 6) (as := []) dL_law_274 w_1157 ok_X5_thrown (q_thrown uM) uM.ob rfl (by omega) (Nat.le_of_ble_eq_true rfl) (Nat.zero_le _) (Nat.zero_le _) (fun E h' n' _ z => det_x z) (det_k ?_)
  refine sw_iload (pc' := 279) rfl dL_law_277 rfl ?_
  refine sw_icmp_eq (pc' := 282) (tgt := 284) rfl dL_law_279 (by decide +kernel) (fun c279 => ?_) (fun c279 => ?_)
  · refine sw_iload (pc' := 286) rfl dL_law_284 rfl ?_
    refine sw_if_ne (pc' := 289) (tgt := 302) rfl dL_law_286 (by decide +kernel) (fun c286 => ?_) (fun c286 => ?_)
    · refine sw_goto (tgt := 3123) dL_law_302 (by decide +kernel) ?_
      have J : LI L xs u un (opPut σ (xs (i + 1)) (xs (i + 2))).2 (N + 12) := ⟨pR.frT (fun i hi => uF i (by omega) (by omega)), ⟨_, uR⟩, hT.fr (fun i hi => (uF i (by omega) (by omega)).trans (pF i (by omega) (by omega) (by omega))), iv_put hV, ⟨_, _, (uF 158 (by omega) (by omega)).trans pO⟩, (uF 0 (by omega) (by omega)).trans ((pF 0 (by omega) (by omega) (by omega)).trans hs), by omega⟩
      exact SW.pick [2, 3, 4, 5, 6] rfl ((K u un _ (by omega) J).bud (by omega) (by omega))
    · refine sw_aload_n (pc' := 290) rfl dL_law_289 rfl ?_
      refine sw_getN (ci := 5) (k := 0) (pc' := 293) rfl dL_law_290 (by decide +kernel) v_347 ((uF 158 (by omega) (by omega)).trans pO) (by show 100 ≤ _; omega) rfl ?_
      refine sw_iload (pc' := 295) rfl dL_law_293 rfl ?_
      refine sw_i2l (pc' := 296) rfl dL_law_295 ?_
      refine sw_lcmp (pc' := 297) rfl dL_law_296 ?_
      refine sw_if_eq (pc' := 300) (tgt := 302) rfl dL_law_297 (by decide +kernel) (fun c297 => ?_) (fun c297 => ?_)
      · refine sw_goto (tgt := 3123) dL_law_302 (by decide +kernel) ?_
        have J : LI L xs u un (opPut σ (xs (i + 1)) (xs (i + 2))).2 (N + 12) := ⟨pR.frT (fun i hi => uF i (by omega) (by omega)), ⟨_, uR⟩, hT.fr (fun i hi => (uF i (by omega) (by omega)).trans (pF i (by omega) (by omega) (by omega))), iv_put hV, ⟨_, _, (uF 158 (by omega) (by omega)).trans pO⟩, (uF 0 (by omega) (by omega)).trans ((pF 0 (by omega) (by omega) (by omega)).trans hs), by omega⟩
        exact SW.pick [2, 3, 4, 5, 6] rfl ((K u un _ (by omega) J).bud (by omega) (by omega))
      · obtain ⟨v9, e9⟩ := ox_0 ox_put c286
        exact absurd (by rw [pv v9 e9, uv v9 e9]; exact lg_self _) c297
  · exact absurd rfl c279
theorem lc_1 {L : Nat} {xs : Nat → Int32} {h : AH} {n i N d bc bs : Nat} {σ : CS} {Post : ARes → AH → Nat → Prop} (hI : LI L xs h n σ N) (hN : N < 2 ^ 31) (hL : L ≤ 3072) (hi : i + 6 ≤ L) (hd : 20 ≤ d) (h1 : 380 ≤ bc) (h2 : 4500 ≤ bs) (K : ∀ (h' : AH) (n' : Nat) (σ' : CS), n ≤ n' → LI L xs h' n' σ' (N + 12) → SW SR0 ML_law d (bc - 380) (bs - 4500) 3123 [(4, .int (nI i)), (3, .ref 158), (2, .ref 135), (1, .ref 100), (0, .ref 0)] [] h' n' Post) : SW SR0 ML_law d bc bs 305 [(4, .int (nI i)), (3, .ref 158), (2, .ref 135), (1, .ref 100), (0, .ref 0)] [] h n Post := by
  obtain ⟨hR, ⟨th, hQ⟩, hT, hV, ⟨w, s, hO⟩, hs, hn⟩ := hI
  refine sw_aload_n (pc' := 306) rfl dL_law_305 rfl ?_
  refine sw_aload_n (pc' := 307) rfl dL_law_306 rfl ?_
  refine sw_iload (pc' := 309) rfl dL_law_307 rfl ?_
  refine sw_iconst (pc' := 310) (v := 1) rfl dL_law_309 (by decide +kernel) ?_
  refine sw_iadd (pc' := 311) rfl dL_law_310 ?_
  rw [show (nI i) + 1 = nI (i + 1) from nI_add _ _]
  refine sw_iald (j := i + 1) (pc' := 312) rfl dL_law_311 hs rfl (by omega) (by omega) ?_
  refine sw_aload_n (pc' := 313) rfl dL_law_312 rfl ?_
  refine sw_iload (pc' := 315) rfl dL_law_313 rfl ?_
  refine sw_iconst (pc' := 316) (v := 2) rfl dL_law_315 (by decide +kernel) ?_
  refine sw_iadd (pc' := 317) rfl dL_law_316 ?_
  rw [show (nI i) + 2 = nI (i + 2) from nI_add _ _]
  refine sw_iald (j := i + 2) (pc' := 318) rfl dL_law_317 hs rfl (by omega) (by omega) ?_
  refine sw_aload_n (pc' := 319) rfl dL_law_318 rfl ?_
  refine sw_iload (pc' := 321) rfl dL_law_319 rfl ?_
  refine sw_iconst (pc' := 322) (v := 3) rfl dL_law_321 (by decide +kernel) ?_
  refine sw_iadd (pc' := 323) rfl dL_law_322 ?_
  rw [show (nI i) + 3 = nI (i + 3) from nI_add _ _]
  refine sw_iald (j := i + 3) (pc' := 324) rfl dL_law_323 hs rfl (by omega) (by omega) ?_
  refine sw_aload_n (pc' := 325) rfl dL_law_324 rfl ?_
  refine sw_iload (pc' := 327) rfl dL_law_325 rfl ?_
  refine sw_iconst (pc' := 328) (v := 4) rfl dL_law_327 (by decide +kernel) ?_
  refine sw_iadd (pc' := 329) rfl dL_law_328 ?_
  rw [show (nI i) + 4 = nI (i + 4) from nI_add _ _]
  refine sw_iald (j := i + 4) (pc' := 330) rfl dL_law_329 hs rfl (by omega) (by omega) ?_
  refine sw_aload_n (pc' := 331) rfl dL_law_330 rfl ?_
  refine sw_iload (pc' := 333) rfl dL_law_331 rfl ?_
  refine sw_iconst (pc' := 334) (v := 5) rfl dL_law_333 (by decide +kernel) ?_
  refine sw_iadd (pc' := 335) rfl dL_law_334 ?_
  rw [show (nI i) + 5 = nI (i + 5) from nI_add _ _]
  refine sw_iald (j := i + 5) (pc' := 336) rfl dL_law_335 hs rfl (by omega) (by omega) ?_
  refine sw_aload_n (pc' := 337) rfl dL_law_336 rfl ?_
  refine sw_S (M' := ML_putAll) (d' := d - 1) (bc' := 60) (bs' := 400) (as := [_, _, _, _, _, _, _]) dL_law_337 w_457 ok_L_putAll (L_putAll hR hT hV hN hO hn (by omega) (Nat.le_refl _) (Nat.le_refl _)) (by omega) (Nat.le_of_ble_eq_true rfl) (by omega) (by omega) (fun E h' n' _ z => lpo_x z) (lpo_k (fun p pn pw ps pk pR pO pv pF => ?_))
  refine sw_istore (pc' := 342) (lv' := [(5, _), (4, _), (3, _), (2, _), (1, _), (0, _)]) rfl dL_law_340 (by decide +kernel) rfl ?_
  refine sw_aload_n (pc' := 343) rfl dL_law_342 rfl ?_
  refine sw_aload_n (pc' := 344) rfl dL_law_343 rfl ?_
  refine sw_iload (pc' := 346) rfl dL_law_344 rfl ?_
  refine sw_iconst (pc' := 347) (v := 1) rfl dL_law_346 (by decide +kernel) ?_
  refine sw_iadd (pc' := 348) rfl dL_law_347 ?_
  rw [show (nI i) + 1 = nI (i + 1) from nI_add _ _]
  refine sw_iald (j := i + 1) (pc' := 349) rfl dL_law_348 ((pF 0 (by omega) (by omega) (by omega)).trans hs) rfl (by omega) (by omega) ?_
  refine sw_aload_n (pc' := 350) rfl dL_law_349 rfl ?_
  refine sw_iload (pc' := 352) rfl dL_law_350 rfl ?_
  refine sw_iconst (pc' := 353) (v := 2) rfl dL_law_352 (by decide +kernel) ?_
  refine sw_iadd (pc' := 354) rfl dL_law_353 ?_
  rw [show (nI i) + 2 = nI (i + 2) from nI_add _ _]
  refine sw_iald (j := i + 2) (pc' := 355) rfl dL_law_354 ((pF 0 (by omega) (by omega) (by omega)).trans hs) rfl (by omega) (by omega) ?_
  refine sw_aload_n (pc' := 356) rfl dL_law_355 rfl ?_
  refine sw_iload (pc' := 358) rfl dL_law_356 rfl ?_
  refine sw_iconst (pc' := 359) (v := 3) rfl dL_law_358 (by decide +kernel) ?_
  refine sw_iadd (pc' := 360) rfl dL_law_359 ?_
  rw [show (nI i) + 3 = nI (i + 3) from nI_add _ _]
  refine sw_iald (j := i + 3) (pc' := 361) rfl dL_law_360 ((pF 0 (by omega) (by omega) (by omega)).trans hs) rfl (by omega) (by omega) ?_
  refine sw_aload_n (pc' := 362) rfl dL_law_361 rfl ?_
  refine sw_iload (pc' := 364) rfl dL_law_362 rfl ?_
  refine sw_iconst (pc' := 365) (v := 4) rfl dL_law_364 (by decide +kernel) ?_
  refine sw_iadd (pc' := 366) rfl dL_law_365 ?_
  rw [show (nI i) + 4 = nI (i + 4) from nI_add _ _]
  refine sw_iald (j := i + 4) (pc' := 367) rfl dL_law_366 ((pF 0 (by omega) (by omega) (by omega)).trans hs) rfl (by omega) (by omega) ?_
  refine sw_aload_n (pc' := 368) rfl dL_law_367 rfl ?_
  refine sw_iload (pc' := 370) rfl dL_law_368 rfl ?_
  refine sw_iconst (pc' := 371) (v := 5) rfl dL_law_370 (by decide +kernel) ?_
  refine sw_iadd (pc' := 372) rfl dL_law_371 ?_
  rw [show (nI i) + 5 = nI (i + 5) from nI_add _ _]
  refine sw_iald (j := i + 5) (pc' := 373) rfl dL_law_372 ((pF 0 (by omega) (by omega) (by omega)).trans hs) rfl (by omega) (by omega) ?_
  have hQ2 := hQ.fr (fun i a b => pF i (by omega) (by omega) (by omega))
  obtain ⟨ρ, τ, hM, hA⟩ := id hQ2
  refine sw_V (M' := MX5_putAll) (d' := d - 1) (bc' := 1) (bs' := 12) (ci := 6) (as := [_, _, _, _, _]) dL_law_373 w_1203 ok_X5_putAll (q_putAll hQ2 (hV.iv hN) (by omega) (by omega) (Nat.le_refl _) (Nat.le_refl _)) hM.ob rfl (by omega) (Nat.le_of_ble_eq_true rfl) (by omega) (by omega) (fun E h' n' _ z => pmc_x z) (pmc_k ox_putAll (fun u un ub uk uv uR uF => ?_))
  refine sw_istore (pc' := 378) (lv' := [(6, _), (5, _), (4, _), (3, _), (2, _), (1, _), (0, _)]) rfl dL_law_376 (by decide +kernel) rfl ?_
  refine sw_aload_n (pc' := 379) rfl dL_law_378 rfl ?_
  obtain ⟨uρ, uτ, uM, uA⟩ := id uR
  refine sw_V (M' := MX5_thrown) (d' := d - 1) (bc' := 0) (bs' := 0) (ci := 6) (as := []) dL_law_379 w_1157 ok_X5_thrown (q_thrown uM) uM.ob rfl (by omega) (Nat.le_of_ble_eq_true rfl) (Nat.zero_le _) (Nat.zero_le _) (fun E h' n' _ z => det_x z) (det_k ?_)
  refine sw_iload (pc' := 384) rfl dL_law_382 rfl ?_
  refine sw_icmp_eq (pc' := 387) (tgt := 389) rfl dL_law_384 (by decide +kernel) (fun c384 => ?_) (fun c384 => ?_)
  · refine sw_iload (pc' := 391) rfl dL_law_389 rfl ?_
    refine sw_if_ne (pc' := 394) (tgt := 407) rfl dL_law_391 (by decide +kernel) (fun c391 => ?_) (fun c391 => ?_)
    · refine sw_goto (tgt := 3123) dL_law_407 (by decide +kernel) ?_
      have J : LI L xs u un (opPutAll σ (xs (i + 1)) (xs (i + 2)) (xs (i + 3)) (xs (i + 4)) (xs (i + 5))).2 (N + 12) := ⟨pR.frT (fun i hi => uF i (by omega) (by omega)), ⟨_, uR⟩, hT.fr (fun i hi => (uF i (by omega) (by omega)).trans (pF i (by omega) (by omega) (by omega))), iv_putAll hV, ⟨_, _, (uF 158 (by omega) (by omega)).trans pO⟩, (uF 0 (by omega) (by omega)).trans ((pF 0 (by omega) (by omega) (by omega)).trans hs), by omega⟩
      exact SW.pick [2, 3, 4, 5, 6] rfl ((K u un _ (by omega) J).bud (by omega) (by omega))
    · refine sw_aload_n (pc' := 395) rfl dL_law_394 rfl ?_
      refine sw_getN (ci := 5) (k := 0) (pc' := 398) rfl dL_law_395 (by decide +kernel) v_347 ((uF 158 (by omega) (by omega)).trans pO) (by show 100 ≤ _; omega) rfl ?_
      refine sw_iload (pc' := 400) rfl dL_law_398 rfl ?_
      refine sw_i2l (pc' := 401) rfl dL_law_400 ?_
      refine sw_lcmp (pc' := 402) rfl dL_law_401 ?_
      refine sw_if_eq (pc' := 405) (tgt := 407) rfl dL_law_402 (by decide +kernel) (fun c402 => ?_) (fun c402 => ?_)
      · refine sw_goto (tgt := 3123) dL_law_407 (by decide +kernel) ?_
        have J : LI L xs u un (opPutAll σ (xs (i + 1)) (xs (i + 2)) (xs (i + 3)) (xs (i + 4)) (xs (i + 5))).2 (N + 12) := ⟨pR.frT (fun i hi => uF i (by omega) (by omega)), ⟨_, uR⟩, hT.fr (fun i hi => (uF i (by omega) (by omega)).trans (pF i (by omega) (by omega) (by omega))), iv_putAll hV, ⟨_, _, (uF 158 (by omega) (by omega)).trans pO⟩, (uF 0 (by omega) (by omega)).trans ((pF 0 (by omega) (by omega) (by omega)).trans hs), by omega⟩
        exact SW.pick [2, 3, 4, 5, 6] rfl ((K u un _ (by omega) J).bud (by omega) (by omega))
      · obtain ⟨v9, e9⟩ := ox_0 ox_putAll c391
        exact absurd (by rw [pv v9 e9, uv v9 e9]; exact lg_self _) c402
  · exact absurd rfl c384
theorem lc_2 {L : Nat} {xs : Nat → Int32} {h : AH} {n i N d bc bs : Nat} {σ : CS} {Post : ARes → AH → Nat → Prop} (hI : LI L xs h n σ N) (hN : N < 2 ^ 31) (hL : L ≤ 3072) (hi : i + 6 ≤ L) (hd : 20 ≤ d) (h1 : 380 ≤ bc) (h2 : 4500 ≤ bs) (K : ∀ (h' : AH) (n' : Nat) (σ' : CS), n ≤ n' → LI L xs h' n' σ' (N + 12) → SW SR0 ML_law d (bc - 380) (bs - 4500) 3123 [(4, .int (nI i)), (3, .ref 158), (2, .ref 135), (1, .ref 100), (0, .ref 0)] [] h' n' Post) : SW SR0 ML_law d bc bs 410 [(4, .int (nI i)), (3, .ref 158), (2, .ref 135), (1, .ref 100), (0, .ref 0)] [] h n Post := by
  obtain ⟨hR, ⟨th, hQ⟩, hT, hV, ⟨w, s, hO⟩, hs, hn⟩ := hI
  refine sw_aload_n (pc' := 411) rfl dL_law_410 rfl ?_
  refine sw_aload_n (pc' := 412) rfl dL_law_411 rfl ?_
  refine sw_iload (pc' := 414) rfl dL_law_412 rfl ?_
  refine sw_iconst (pc' := 415) (v := 1) rfl dL_law_414 (by decide +kernel) ?_
  refine sw_iadd (pc' := 416) rfl dL_law_415 ?_
  rw [show (nI i) + 1 = nI (i + 1) from nI_add _ _]
  refine sw_iald (j := i + 1) (pc' := 417) rfl dL_law_416 hs rfl (by omega) (by omega) ?_
  refine sw_aload_n (pc' := 418) rfl dL_law_417 rfl ?_
  refine sw_iload (pc' := 420) rfl dL_law_418 rfl ?_
  refine sw_iconst (pc' := 421) (v := 2) rfl dL_law_420 (by decide +kernel) ?_
  refine sw_iadd (pc' := 422) rfl dL_law_421 ?_
  rw [show (nI i) + 2 = nI (i + 2) from nI_add _ _]
  refine sw_iald (j := i + 2) (pc' := 423) rfl dL_law_422 hs rfl (by omega) (by omega) ?_
  refine sw_aload_n (pc' := 424) rfl dL_law_423 rfl ?_
  refine sw_S (M' := ML_take) (d' := d - 1) (bc' := 60) (bs' := 400) (as := [_, _, _, _]) dL_law_424 w_474 ok_L_take (L_take hR hT hV hN hO hn (by omega) (Nat.le_refl _) (Nat.le_refl _)) (by omega) (Nat.le_of_ble_eq_true rfl) (by omega) (by omega) (fun E h' n' _ z => lpo_x z) (lpo_k (fun p pn pw ps pk pR pO pv pF => ?_))
  refine sw_istore (pc' := 429) (lv' := [(5, _), (4, _), (3, _), (2, _), (1, _), (0, _)]) rfl dL_law_427 (by decide +kernel) rfl ?_
  refine sw_aload_n (pc' := 430) rfl dL_law_429 rfl ?_
  refine sw_aload_n (pc' := 431) rfl dL_law_430 rfl ?_
  refine sw_iload (pc' := 433) rfl dL_law_431 rfl ?_
  refine sw_iconst (pc' := 434) (v := 1) rfl dL_law_433 (by decide +kernel) ?_
  refine sw_iadd (pc' := 435) rfl dL_law_434 ?_
  rw [show (nI i) + 1 = nI (i + 1) from nI_add _ _]
  refine sw_iald (j := i + 1) (pc' := 436) rfl dL_law_435 ((pF 0 (by omega) (by omega) (by omega)).trans hs) rfl (by omega) (by omega) ?_
  refine sw_aload_n (pc' := 437) rfl dL_law_436 rfl ?_
  refine sw_iload (pc' := 439) rfl dL_law_437 rfl ?_
  refine sw_iconst (pc' := 440) (v := 2) rfl dL_law_439 (by decide +kernel) ?_
  refine sw_iadd (pc' := 441) rfl dL_law_440 ?_
  rw [show (nI i) + 2 = nI (i + 2) from nI_add _ _]
  refine sw_iald (j := i + 2) (pc' := 442) rfl dL_law_441 ((pF 0 (by omega) (by omega) (by omega)).trans hs) rfl (by omega) (by omega) ?_
  have hQ2 := hQ.fr (fun i a b => pF i (by omega) (by omega) (by omega))
  obtain ⟨ρ, τ, hM, hA⟩ := id hQ2
  refine sw_V (M' := MX5_take) (d' := d - 1) (bc' := 1) (bs' := 12) (ci := 6) (as := [_, _]) dL_law_442 w_1211 ok_X5_take (q_take hQ2 (hV.iv hN) (by omega) (by omega) (Nat.le_refl _) (Nat.le_refl _)) hM.ob rfl (by omega) (Nat.le_of_ble_eq_true rfl) (by omega) (by omega) (fun E h' n' _ z => pmc_x z) (pmc_k ox_take (fun u un ub uk uv uR uF => ?_))
  refine sw_istore (pc' := 447) (lv' := [(6, _), (5, _), (4, _), (3, _), (2, _), (1, _), (0, _)]) rfl dL_law_445 (by decide +kernel) rfl ?_
  refine sw_aload_n (pc' := 448) rfl dL_law_447 rfl ?_
  obtain ⟨uρ, uτ, uM, uA⟩ := id uR
  refine sw_V (M' := MX5_thrown) (d' := d - 1) (bc' := 0) (bs' := 0) (ci := 6) (as := []) dL_law_448 w_1157 ok_X5_thrown (q_thrown uM) uM.ob rfl (by omega) (Nat.le_of_ble_eq_true rfl) (Nat.zero_le _) (Nat.zero_le _) (fun E h' n' _ z => det_x z) (det_k ?_)
  refine sw_iload (pc' := 453) rfl dL_law_451 rfl ?_
  refine sw_icmp_eq (pc' := 456) (tgt := 458) rfl dL_law_453 (by decide +kernel) (fun c453 => ?_) (fun c453 => ?_)
  · refine sw_iload (pc' := 460) rfl dL_law_458 rfl ?_
    refine sw_if_ne (pc' := 463) (tgt := 476) rfl dL_law_460 (by decide +kernel) (fun c460 => ?_) (fun c460 => ?_)
    · refine sw_goto (tgt := 3123) dL_law_476 (by decide +kernel) ?_
      have J : LI L xs u un (opTake σ (xs (i + 1)) (xs (i + 2))).2 (N + 12) := ⟨pR.frT (fun i hi => uF i (by omega) (by omega)), ⟨_, uR⟩, hT.fr (fun i hi => (uF i (by omega) (by omega)).trans (pF i (by omega) (by omega) (by omega))), iv_take hV, ⟨_, _, (uF 158 (by omega) (by omega)).trans pO⟩, (uF 0 (by omega) (by omega)).trans ((pF 0 (by omega) (by omega) (by omega)).trans hs), by omega⟩
      exact SW.pick [2, 3, 4, 5, 6] rfl ((K u un _ (by omega) J).bud (by omega) (by omega))
    · refine sw_aload_n (pc' := 464) rfl dL_law_463 rfl ?_
      refine sw_getN (ci := 5) (k := 0) (pc' := 467) rfl dL_law_464 (by decide +kernel) v_347 ((uF 158 (by omega) (by omega)).trans pO) (by show 100 ≤ _; omega) rfl ?_
      refine sw_iload (pc' := 469) rfl dL_law_467 rfl ?_
      refine sw_i2l (pc' := 470) rfl dL_law_469 ?_
      refine sw_lcmp (pc' := 471) rfl dL_law_470 ?_
      refine sw_if_eq (pc' := 474) (tgt := 476) rfl dL_law_471 (by decide +kernel) (fun c471 => ?_) (fun c471 => ?_)
      · refine sw_goto (tgt := 3123) dL_law_476 (by decide +kernel) ?_
        have J : LI L xs u un (opTake σ (xs (i + 1)) (xs (i + 2))).2 (N + 12) := ⟨pR.frT (fun i hi => uF i (by omega) (by omega)), ⟨_, uR⟩, hT.fr (fun i hi => (uF i (by omega) (by omega)).trans (pF i (by omega) (by omega) (by omega))), iv_take hV, ⟨_, _, (uF 158 (by omega) (by omega)).trans pO⟩, (uF 0 (by omega) (by omega)).trans ((pF 0 (by omega) (by omega) (by omega)).trans hs), by omega⟩
        exact SW.pick [2, 3, 4, 5, 6] rfl ((K u un _ (by omega) J).bud (by omega) (by omega))
      · obtain ⟨v9, e9⟩ := ox_0 ox_take c460
        exact absurd (by rw [pv v9 e9, uv v9 e9]; exact lg_self _) c471
  · exact absurd rfl c453
theorem lc_3 {L : Nat} {xs : Nat → Int32} {h : AH} {n i N d bc bs : Nat} {σ : CS} {Post : ARes → AH → Nat → Prop} (hI : LI L xs h n σ N) (hN : N < 2 ^ 31) (hL : L ≤ 3072) (hi : i + 6 ≤ L) (hd : 20 ≤ d) (h1 : 380 ≤ bc) (h2 : 4500 ≤ bs) (K : ∀ (h' : AH) (n' : Nat) (σ' : CS), n ≤ n' → LI L xs h' n' σ' (N + 12) → SW SR0 ML_law d (bc - 380) (bs - 4500) 3123 [(4, .int (nI i)), (3, .ref 158), (2, .ref 135), (1, .ref 100), (0, .ref 0)] [] h' n' Post) : SW SR0 ML_law d bc bs 479 [(4, .int (nI i)), (3, .ref 158), (2, .ref 135), (1, .ref 100), (0, .ref 0)] [] h n Post := by
  obtain ⟨hR, ⟨th, hQ⟩, hT, hV, ⟨w, s, hO⟩, hs, hn⟩ := hI
  refine sw_aload_n (pc' := 480) rfl dL_law_479 rfl ?_
  refine sw_aload_n (pc' := 481) rfl dL_law_480 rfl ?_
  refine sw_iload (pc' := 483) rfl dL_law_481 rfl ?_
  refine sw_iconst (pc' := 484) (v := 1) rfl dL_law_483 (by decide +kernel) ?_
  refine sw_iadd (pc' := 485) rfl dL_law_484 ?_
  rw [show (nI i) + 1 = nI (i + 1) from nI_add _ _]
  refine sw_iald (j := i + 1) (pc' := 486) rfl dL_law_485 hs rfl (by omega) (by omega) ?_
  refine sw_aload_n (pc' := 487) rfl dL_law_486 rfl ?_
  refine sw_S (M' := ML_clear) (d' := d - 1) (bc' := 60) (bs' := 400) (as := [_, _, _]) dL_law_487 w_490 ok_L_clear (L_clear hR hT hV hN hO hn (by omega) (Nat.le_refl _) (Nat.le_refl _)) (by omega) (Nat.le_of_ble_eq_true rfl) (by omega) (by omega) (fun E h' n' _ z => lpo_x z) (lpo_k (fun p pn pw ps pk pR pO pv pF => ?_))
  refine sw_istore (pc' := 492) (lv' := [(5, _), (4, _), (3, _), (2, _), (1, _), (0, _)]) rfl dL_law_490 (by decide +kernel) rfl ?_
  refine sw_aload_n (pc' := 493) rfl dL_law_492 rfl ?_
  refine sw_aload_n (pc' := 494) rfl dL_law_493 rfl ?_
  refine sw_iload (pc' := 496) rfl dL_law_494 rfl ?_
  refine sw_iconst (pc' := 497) (v := 1) rfl dL_law_496 (by decide +kernel) ?_
  refine sw_iadd (pc' := 498) rfl dL_law_497 ?_
  rw [show (nI i) + 1 = nI (i + 1) from nI_add _ _]
  refine sw_iald (j := i + 1) (pc' := 499) rfl dL_law_498 ((pF 0 (by omega) (by omega) (by omega)).trans hs) rfl (by omega) (by omega) ?_
  have hQ2 := hQ.fr (fun i a b => pF i (by omega) (by omega) (by omega))
  obtain ⟨ρ, τ, hM, hA⟩ := id hQ2
  refine sw_V (M' := MX5_clear) (d' := d - 1) (bc' := 1) (bs' := 12) (ci := 6) (as := [_]) dL_law_499 w_1231 ok_X5_clear (q_clear hQ2 (hV.iv hN) (by omega) (by omega) (Nat.le_refl _) (Nat.le_refl _)) hM.ob rfl (by omega) (Nat.le_of_ble_eq_true rfl) (by omega) (by omega) (fun E h' n' _ z => pmc_x z) (pmc_k ox_clear (fun u un ub uk uv uR uF => ?_))
  refine sw_istore (pc' := 504) (lv' := [(6, _), (5, _), (4, _), (3, _), (2, _), (1, _), (0, _)]) rfl dL_law_502 (by decide +kernel) rfl ?_
  refine sw_aload_n (pc' := 505) rfl dL_law_504 rfl ?_
  obtain ⟨uρ, uτ, uM, uA⟩ := id uR
  refine sw_V (M' := MX5_thrown) (d' := d - 1) (bc' := 0) (bs' := 0) (ci := 6) (as := []) dL_law_505 w_1157 ok_X5_thrown (q_thrown uM) uM.ob rfl (by omega) (Nat.le_of_ble_eq_true rfl) (Nat.zero_le _) (Nat.zero_le _) (fun E h' n' _ z => det_x z) (det_k ?_)
  refine sw_iload (pc' := 510) rfl dL_law_508 rfl ?_
  refine sw_icmp_eq (pc' := 513) (tgt := 515) rfl dL_law_510 (by decide +kernel) (fun c510 => ?_) (fun c510 => ?_)
  · refine sw_iload (pc' := 517) rfl dL_law_515 rfl ?_
    refine sw_if_ne (pc' := 520) (tgt := 533) rfl dL_law_517 (by decide +kernel) (fun c517 => ?_) (fun c517 => ?_)
    · refine sw_goto (tgt := 3123) dL_law_533 (by decide +kernel) ?_
      have J : LI L xs u un (opClear σ (xs (i + 1))).2 (N + 12) := ⟨pR.frT (fun i hi => uF i (by omega) (by omega)), ⟨_, uR⟩, hT.fr (fun i hi => (uF i (by omega) (by omega)).trans (pF i (by omega) (by omega) (by omega))), iv_clear hV, ⟨_, _, (uF 158 (by omega) (by omega)).trans pO⟩, (uF 0 (by omega) (by omega)).trans ((pF 0 (by omega) (by omega) (by omega)).trans hs), by omega⟩
      exact SW.pick [2, 3, 4, 5, 6] rfl ((K u un _ (by omega) J).bud (by omega) (by omega))
    · refine sw_aload_n (pc' := 521) rfl dL_law_520 rfl ?_
      refine sw_getN (ci := 5) (k := 0) (pc' := 524) rfl dL_law_521 (by decide +kernel) v_347 ((uF 158 (by omega) (by omega)).trans pO) (by show 100 ≤ _; omega) rfl ?_
      refine sw_iload (pc' := 526) rfl dL_law_524 rfl ?_
      refine sw_i2l (pc' := 527) rfl dL_law_526 ?_
      refine sw_lcmp (pc' := 528) rfl dL_law_527 ?_
      refine sw_if_eq (pc' := 531) (tgt := 533) rfl dL_law_528 (by decide +kernel) (fun c528 => ?_) (fun c528 => ?_)
      · refine sw_goto (tgt := 3123) dL_law_533 (by decide +kernel) ?_
        have J : LI L xs u un (opClear σ (xs (i + 1))).2 (N + 12) := ⟨pR.frT (fun i hi => uF i (by omega) (by omega)), ⟨_, uR⟩, hT.fr (fun i hi => (uF i (by omega) (by omega)).trans (pF i (by omega) (by omega) (by omega))), iv_clear hV, ⟨_, _, (uF 158 (by omega) (by omega)).trans pO⟩, (uF 0 (by omega) (by omega)).trans ((pF 0 (by omega) (by omega) (by omega)).trans hs), by omega⟩
        exact SW.pick [2, 3, 4, 5, 6] rfl ((K u un _ (by omega) J).bud (by omega) (by omega))
      · obtain ⟨v9, e9⟩ := ox_0 ox_clear c517
        exact absurd (by rw [pv v9 e9, uv v9 e9]; exact lg_self _) c528
  · exact absurd rfl c510
theorem lc_4 {L : Nat} {xs : Nat → Int32} {h : AH} {n i N d bc bs : Nat} {σ : CS} {Post : ARes → AH → Nat → Prop} (hI : LI L xs h n σ N) (hN : N < 2 ^ 31) (hL : L ≤ 3072) (hi : i + 6 ≤ L) (hd : 20 ≤ d) (h1 : 380 ≤ bc) (h2 : 4500 ≤ bs) (K : ∀ (h' : AH) (n' : Nat) (σ' : CS), n ≤ n' → LI L xs h' n' σ' (N + 12) → SW SR0 ML_law d (bc - 380) (bs - 4500) 3123 [(4, .int (nI i)), (3, .ref 158), (2, .ref 135), (1, .ref 100), (0, .ref 0)] [] h' n' Post) : SW SR0 ML_law d bc bs 536 [(4, .int (nI i)), (3, .ref 158), (2, .ref 135), (1, .ref 100), (0, .ref 0)] [] h n Post := by
  obtain ⟨hR, ⟨th, hQ⟩, hT, hV, ⟨w, s, hO⟩, hs, hn⟩ := hI
  refine sw_aload_n (pc' := 537) rfl dL_law_536 rfl ?_
  refine sw_aload_n (pc' := 538) rfl dL_law_537 rfl ?_
  refine sw_iload (pc' := 540) rfl dL_law_538 rfl ?_
  refine sw_iconst (pc' := 541) (v := 1) rfl dL_law_540 (by decide +kernel) ?_
  refine sw_iadd (pc' := 542) rfl dL_law_541 ?_
  rw [show (nI i) + 1 = nI (i + 1) from nI_add _ _]
  refine sw_iald (j := i + 1) (pc' := 543) rfl dL_law_542 hs rfl (by omega) (by omega) ?_
  refine sw_aload_n (pc' := 544) rfl dL_law_543 rfl ?_
  refine sw_iload (pc' := 546) rfl dL_law_544 rfl ?_
  refine sw_iconst (pc' := 547) (v := 2) rfl dL_law_546 (by decide +kernel) ?_
  refine sw_iadd (pc' := 548) rfl dL_law_547 ?_
  rw [show (nI i) + 2 = nI (i + 2) from nI_add _ _]
  refine sw_iald (j := i + 2) (pc' := 549) rfl dL_law_548 hs rfl (by omega) (by omega) ?_
  refine sw_aload_n (pc' := 550) rfl dL_law_549 rfl ?_
  refine sw_S (M' := ML_pair) (d' := d - 1) (bc' := 60) (bs' := 400) (as := [_, _, _, _]) dL_law_550 w_501 ok_L_pair (L_pair hR hT hV hN hO hn (by omega) (Nat.le_refl _) (Nat.le_refl _)) (by omega) (Nat.le_of_ble_eq_true rfl) (by omega) (by omega) (fun E h' n' _ z => lpo_x z) (lpo_k (fun p pn pw ps pk pR pO pv pF => ?_))
  refine sw_istore (pc' := 555) (lv' := [(5, _), (4, _), (3, _), (2, _), (1, _), (0, _)]) rfl dL_law_553 (by decide +kernel) rfl ?_
  refine sw_aload_n (pc' := 556) rfl dL_law_555 rfl ?_
  refine sw_aload_n (pc' := 557) rfl dL_law_556 rfl ?_
  refine sw_iload (pc' := 559) rfl dL_law_557 rfl ?_
  refine sw_iconst (pc' := 560) (v := 1) rfl dL_law_559 (by decide +kernel) ?_
  refine sw_iadd (pc' := 561) rfl dL_law_560 ?_
  rw [show (nI i) + 1 = nI (i + 1) from nI_add _ _]
  refine sw_iald (j := i + 1) (pc' := 562) rfl dL_law_561 ((pF 0 (by omega) (by omega) (by omega)).trans hs) rfl (by omega) (by omega) ?_
  refine sw_aload_n (pc' := 563) rfl dL_law_562 rfl ?_
  refine sw_iload (pc' := 565) rfl dL_law_563 rfl ?_
  refine sw_iconst (pc' := 566) (v := 2) rfl dL_law_565 (by decide +kernel) ?_
  refine sw_iadd (pc' := 567) rfl dL_law_566 ?_
  rw [show (nI i) + 2 = nI (i + 2) from nI_add _ _]
  refine sw_iald (j := i + 2) (pc' := 568) rfl dL_law_567 ((pF 0 (by omega) (by omega) (by omega)).trans hs) rfl (by omega) (by omega) ?_
  have hQ2 := hQ.fr (fun i a b => pF i (by omega) (by omega) (by omega))
  obtain ⟨ρ, τ, hM, hA⟩ := id hQ2
  refine sw_V (M' := MX5_pair) (d' := d - 1) (bc' := 1) (bs' := 12) (ci := 6) (as := [_, _]) dL_law_568 w_1243 ok_X5_pair (q_pair hQ2 (hV.iv hN) (by omega) (by omega) (Nat.le_refl _) (Nat.le_refl _)) hM.ob rfl (by omega) (Nat.le_of_ble_eq_true rfl) (by omega) (by omega) (fun E h' n' _ z => pmc_x z) (pmc_k ox_pair (fun u un ub uk uv uR uF => ?_))
  refine sw_istore (pc' := 573) (lv' := [(6, _), (5, _), (4, _), (3, _), (2, _), (1, _), (0, _)]) rfl dL_law_571 (by decide +kernel) rfl ?_
  refine sw_aload_n (pc' := 574) rfl dL_law_573 rfl ?_
  obtain ⟨uρ, uτ, uM, uA⟩ := id uR
  refine sw_V (M' := MX5_thrown) (d' := d - 1) (bc' := 0) (bs' := 0) (ci := 6) (as := []) dL_law_574 w_1157 ok_X5_thrown (q_thrown uM) uM.ob rfl (by omega) (Nat.le_of_ble_eq_true rfl) (Nat.zero_le _) (Nat.zero_le _) (fun E h' n' _ z => det_x z) (det_k ?_)
  refine sw_iload (pc' := 579) rfl dL_law_577 rfl ?_
  refine sw_icmp_eq (pc' := 582) (tgt := 584) rfl dL_law_579 (by decide +kernel) (fun c579 => ?_) (fun c579 => ?_)
  · refine sw_iload (pc' := 586) rfl dL_law_584 rfl ?_
    refine sw_if_ne (pc' := 589) (tgt := 602) rfl dL_law_586 (by decide +kernel) (fun c586 => ?_) (fun c586 => ?_)
    · refine sw_goto (tgt := 3123) dL_law_602 (by decide +kernel) ?_
      have J : LI L xs u un (opPair σ (xs (i + 1)) (xs (i + 2))).2 (N + 12) := ⟨pR.frT (fun i hi => uF i (by omega) (by omega)), ⟨_, uR⟩, hT.fr (fun i hi => (uF i (by omega) (by omega)).trans (pF i (by omega) (by omega) (by omega))), iv_pair hV, ⟨_, _, (uF 158 (by omega) (by omega)).trans pO⟩, (uF 0 (by omega) (by omega)).trans ((pF 0 (by omega) (by omega) (by omega)).trans hs), by omega⟩
      exact SW.pick [2, 3, 4, 5, 6] rfl ((K u un _ (by omega) J).bud (by omega) (by omega))
    · refine sw_aload_n (pc' := 590) rfl dL_law_589 rfl ?_
      refine sw_getN (ci := 5) (k := 0) (pc' := 593) rfl dL_law_590 (by decide +kernel) v_347 ((uF 158 (by omega) (by omega)).trans pO) (by show 100 ≤ _; omega) rfl ?_
      refine sw_iload (pc' := 595) rfl dL_law_593 rfl ?_
      refine sw_i2l (pc' := 596) rfl dL_law_595 ?_
      refine sw_lcmp (pc' := 597) rfl dL_law_596 ?_
      refine sw_if_eq (pc' := 600) (tgt := 602) rfl dL_law_597 (by decide +kernel) (fun c597 => ?_) (fun c597 => ?_)
      · refine sw_goto (tgt := 3123) dL_law_602 (by decide +kernel) ?_
        have J : LI L xs u un (opPair σ (xs (i + 1)) (xs (i + 2))).2 (N + 12) := ⟨pR.frT (fun i hi => uF i (by omega) (by omega)), ⟨_, uR⟩, hT.fr (fun i hi => (uF i (by omega) (by omega)).trans (pF i (by omega) (by omega) (by omega))), iv_pair hV, ⟨_, _, (uF 158 (by omega) (by omega)).trans pO⟩, (uF 0 (by omega) (by omega)).trans ((pF 0 (by omega) (by omega) (by omega)).trans hs), by omega⟩
        exact SW.pick [2, 3, 4, 5, 6] rfl ((K u un _ (by omega) J).bud (by omega) (by omega))
      · obtain ⟨v9, e9⟩ := ox_0 ox_pair c586
        exact absurd (by rw [pv v9 e9, uv v9 e9]; exact lg_self _) c597
  · exact absurd rfl c579
theorem lc_5 {L : Nat} {xs : Nat → Int32} {h : AH} {n i N d bc bs : Nat} {σ : CS} {Post : ARes → AH → Nat → Prop} (hI : LI L xs h n σ N) (hN : N < 2 ^ 31) (hL : L ≤ 3072) (hi : i + 6 ≤ L) (hd : 20 ≤ d) (h1 : 380 ≤ bc) (h2 : 4500 ≤ bs) (K : ∀ (h' : AH) (n' : Nat) (σ' : CS), n ≤ n' → LI L xs h' n' σ' (N + 12) → SW SR0 ML_law d (bc - 380) (bs - 4500) 3123 [(4, .int (nI i)), (3, .ref 158), (2, .ref 135), (1, .ref 100), (0, .ref 0)] [] h' n' Post) : SW SR0 ML_law d bc bs 605 [(4, .int (nI i)), (3, .ref 158), (2, .ref 135), (1, .ref 100), (0, .ref 0)] [] h n Post := by
  obtain ⟨hR, ⟨th, hQ⟩, hT, hV, ⟨w, s, hO⟩, hs, hn⟩ := hI
  refine sw_aload_n (pc' := 606) rfl dL_law_605 rfl ?_
  refine sw_aload_n (pc' := 607) rfl dL_law_606 rfl ?_
  refine sw_iload (pc' := 609) rfl dL_law_607 rfl ?_
  refine sw_iconst (pc' := 610) (v := 1) rfl dL_law_609 (by decide +kernel) ?_
  refine sw_iadd (pc' := 611) rfl dL_law_610 ?_
  rw [show (nI i) + 1 = nI (i + 1) from nI_add _ _]
  refine sw_iald (j := i + 1) (pc' := 612) rfl dL_law_611 hs rfl (by omega) (by omega) ?_
  refine sw_aload_n (pc' := 613) rfl dL_law_612 rfl ?_
  refine sw_iload (pc' := 615) rfl dL_law_613 rfl ?_
  refine sw_iconst (pc' := 616) (v := 2) rfl dL_law_615 (by decide +kernel) ?_
  refine sw_iadd (pc' := 617) rfl dL_law_616 ?_
  rw [show (nI i) + 2 = nI (i + 2) from nI_add _ _]
  refine sw_iald (j := i + 2) (pc' := 618) rfl dL_law_617 hs rfl (by omega) (by omega) ?_
  refine sw_aload_n (pc' := 619) rfl dL_law_618 rfl ?_
  refine sw_S (M' := ML_pour) (d' := d - 1) (bc' := 60) (bs' := 400) (as := [_, _, _, _]) dL_law_619 w_517 ok_L_pour (L_pour hR hT hV hN hO hn (by omega) (Nat.le_refl _) (Nat.le_refl _)) (by omega) (Nat.le_of_ble_eq_true rfl) (by omega) (by omega) (fun E h' n' _ z => lpo_x z) (lpo_k (fun p pn pw ps pk pR pO pv pF => ?_))
  refine sw_istore (pc' := 624) (lv' := [(5, _), (4, _), (3, _), (2, _), (1, _), (0, _)]) rfl dL_law_622 (by decide +kernel) rfl ?_
  refine sw_aload_n (pc' := 625) rfl dL_law_624 rfl ?_
  refine sw_aload_n (pc' := 626) rfl dL_law_625 rfl ?_
  refine sw_iload (pc' := 628) rfl dL_law_626 rfl ?_
  refine sw_iconst (pc' := 629) (v := 1) rfl dL_law_628 (by decide +kernel) ?_
  refine sw_iadd (pc' := 630) rfl dL_law_629 ?_
  rw [show (nI i) + 1 = nI (i + 1) from nI_add _ _]
  refine sw_iald (j := i + 1) (pc' := 631) rfl dL_law_630 ((pF 0 (by omega) (by omega) (by omega)).trans hs) rfl (by omega) (by omega) ?_
  refine sw_aload_n (pc' := 632) rfl dL_law_631 rfl ?_
  refine sw_iload (pc' := 634) rfl dL_law_632 rfl ?_
  refine sw_iconst (pc' := 635) (v := 2) rfl dL_law_634 (by decide +kernel) ?_
  refine sw_iadd (pc' := 636) rfl dL_law_635 ?_
  rw [show (nI i) + 2 = nI (i + 2) from nI_add _ _]
  refine sw_iald (j := i + 2) (pc' := 637) rfl dL_law_636 ((pF 0 (by omega) (by omega) (by omega)).trans hs) rfl (by omega) (by omega) ?_
  have hQ2 := hQ.fr (fun i a b => pF i (by omega) (by omega) (by omega))
  obtain ⟨ρ, τ, hM, hA⟩ := id hQ2
  refine sw_V (M' := MX5_pour) (d' := d - 1) (bc' := 1) (bs' := 12) (ci := 6) (as := [_, _]) dL_law_637 w_1247 ok_X5_pour (q_pour hQ2 (hV.iv hN) (by omega) (by omega) (Nat.le_refl _) (Nat.le_refl _)) hM.ob rfl (by omega) (Nat.le_of_ble_eq_true rfl) (by omega) (by omega) (fun E h' n' _ z => pmc_x z) (pmc_k ox_pour (fun u un ub uk uv uR uF => ?_))
  refine sw_istore (pc' := 642) (lv' := [(6, _), (5, _), (4, _), (3, _), (2, _), (1, _), (0, _)]) rfl dL_law_640 (by decide +kernel) rfl ?_
  refine sw_aload_n (pc' := 643) rfl dL_law_642 rfl ?_
  obtain ⟨uρ, uτ, uM, uA⟩ := id uR
  refine sw_V (M' := MX5_thrown) (d' := d - 1) (bc' := 0) (bs' := 0) (ci := 6) (as := []) dL_law_643 w_1157 ok_X5_thrown (q_thrown uM) uM.ob rfl (by omega) (Nat.le_of_ble_eq_true rfl) (Nat.zero_le _) (Nat.zero_le _) (fun E h' n' _ z => det_x z) (det_k ?_)
  refine sw_iload (pc' := 648) rfl dL_law_646 rfl ?_
  refine sw_icmp_eq (pc' := 651) (tgt := 653) rfl dL_law_648 (by decide +kernel) (fun c648 => ?_) (fun c648 => ?_)
  · refine sw_iload (pc' := 655) rfl dL_law_653 rfl ?_
    refine sw_if_ne (pc' := 658) (tgt := 671) rfl dL_law_655 (by decide +kernel) (fun c655 => ?_) (fun c655 => ?_)
    · refine sw_goto (tgt := 3123) dL_law_671 (by decide +kernel) ?_
      have J : LI L xs u un (opPour σ (xs (i + 1)) (xs (i + 2))).2 (N + 12) := ⟨pR.frT (fun i hi => uF i (by omega) (by omega)), ⟨_, uR⟩, hT.fr (fun i hi => (uF i (by omega) (by omega)).trans (pF i (by omega) (by omega) (by omega))), iv_pour hV, ⟨_, _, (uF 158 (by omega) (by omega)).trans pO⟩, (uF 0 (by omega) (by omega)).trans ((pF 0 (by omega) (by omega) (by omega)).trans hs), by omega⟩
      exact SW.pick [2, 3, 4, 5, 6] rfl ((K u un _ (by omega) J).bud (by omega) (by omega))
    · refine sw_aload_n (pc' := 659) rfl dL_law_658 rfl ?_
      refine sw_getN (ci := 5) (k := 0) (pc' := 662) rfl dL_law_659 (by decide +kernel) v_347 ((uF 158 (by omega) (by omega)).trans pO) (by show 100 ≤ _; omega) rfl ?_
      refine sw_iload (pc' := 664) rfl dL_law_662 rfl ?_
      refine sw_i2l (pc' := 665) rfl dL_law_664 ?_
      refine sw_lcmp (pc' := 666) rfl dL_law_665 ?_
      refine sw_if_eq (pc' := 669) (tgt := 671) rfl dL_law_666 (by decide +kernel) (fun c666 => ?_) (fun c666 => ?_)
      · refine sw_goto (tgt := 3123) dL_law_671 (by decide +kernel) ?_
        have J : LI L xs u un (opPour σ (xs (i + 1)) (xs (i + 2))).2 (N + 12) := ⟨pR.frT (fun i hi => uF i (by omega) (by omega)), ⟨_, uR⟩, hT.fr (fun i hi => (uF i (by omega) (by omega)).trans (pF i (by omega) (by omega) (by omega))), iv_pour hV, ⟨_, _, (uF 158 (by omega) (by omega)).trans pO⟩, (uF 0 (by omega) (by omega)).trans ((pF 0 (by omega) (by omega) (by omega)).trans hs), by omega⟩
        exact SW.pick [2, 3, 4, 5, 6] rfl ((K u un _ (by omega) J).bud (by omega) (by omega))
      · obtain ⟨v9, e9⟩ := ox_0 ox_pour c655
        exact absurd (by rw [pv v9 e9, uv v9 e9]; exact lg_self _) c666
  · exact absurd rfl c648
theorem lc_6 {L : Nat} {xs : Nat → Int32} {h : AH} {n i N d bc bs : Nat} {σ : CS} {Post : ARes → AH → Nat → Prop} (hI : LI L xs h n σ N) (hN : N < 2 ^ 31) (hL : L ≤ 3072) (hi : i + 6 ≤ L) (hd : 20 ≤ d) (h1 : 380 ≤ bc) (h2 : 4500 ≤ bs) (K : ∀ (h' : AH) (n' : Nat) (σ' : CS), n ≤ n' → LI L xs h' n' σ' (N + 12) → SW SR0 ML_law d (bc - 380) (bs - 4500) 3123 [(4, .int (nI i)), (3, .ref 158), (2, .ref 135), (1, .ref 100), (0, .ref 0)] [] h' n' Post) : SW SR0 ML_law d bc bs 674 [(4, .int (nI i)), (3, .ref 158), (2, .ref 135), (1, .ref 100), (0, .ref 0)] [] h n Post := by
  obtain ⟨hR, ⟨th, hQ⟩, hT, hV, ⟨w, s, hO⟩, hs, hn⟩ := hI
  refine sw_aload_n (pc' := 675) rfl dL_law_674 rfl ?_
  refine sw_aload_n (pc' := 676) rfl dL_law_675 rfl ?_
  refine sw_iload (pc' := 678) rfl dL_law_676 rfl ?_
  refine sw_iconst (pc' := 679) (v := 1) rfl dL_law_678 (by decide +kernel) ?_
  refine sw_iadd (pc' := 680) rfl dL_law_679 ?_
  rw [show (nI i) + 1 = nI (i + 1) from nI_add _ _]
  refine sw_iald (j := i + 1) (pc' := 681) rfl dL_law_680 hs rfl (by omega) (by omega) ?_
  refine sw_aload_n (pc' := 682) rfl dL_law_681 rfl ?_
  refine sw_iload (pc' := 684) rfl dL_law_682 rfl ?_
  refine sw_iconst (pc' := 685) (v := 2) rfl dL_law_684 (by decide +kernel) ?_
  refine sw_iadd (pc' := 686) rfl dL_law_685 ?_
  rw [show (nI i) + 2 = nI (i + 2) from nI_add _ _]
  refine sw_iald (j := i + 2) (pc' := 687) rfl dL_law_686 hs rfl (by omega) (by omega) ?_
  refine sw_aload_n (pc' := 688) rfl dL_law_687 rfl ?_
  refine sw_iload (pc' := 690) rfl dL_law_688 rfl ?_
  refine sw_iconst (pc' := 691) (v := 3) rfl dL_law_690 (by decide +kernel) ?_
  refine sw_iadd (pc' := 692) rfl dL_law_691 ?_
  rw [show (nI i) + 3 = nI (i + 3) from nI_add _ _]
  refine sw_iald (j := i + 3) (pc' := 693) rfl dL_law_692 hs rfl (by omega) (by omega) ?_
  refine sw_aload_n (pc' := 694) rfl dL_law_693 rfl ?_
  refine sw_S (M' := ML_change) (d' := d - 1) (bc' := 60) (bs' := 400) (as := [_, _, _, _, _]) dL_law_694 w_534 ok_L_change (L_change hR hT hV hN hO hn (by omega) (Nat.le_refl _) (Nat.le_refl _)) (by omega) (Nat.le_of_ble_eq_true rfl) (by omega) (by omega) (fun E h' n' _ z => lpo_x z) (lpo_k (fun p pn pw ps pk pR pO pv pF => ?_))
  refine sw_istore (pc' := 699) (lv' := [(5, _), (4, _), (3, _), (2, _), (1, _), (0, _)]) rfl dL_law_697 (by decide +kernel) rfl ?_
  refine sw_aload_n (pc' := 700) rfl dL_law_699 rfl ?_
  refine sw_aload_n (pc' := 701) rfl dL_law_700 rfl ?_
  refine sw_iload (pc' := 703) rfl dL_law_701 rfl ?_
  refine sw_iconst (pc' := 704) (v := 1) rfl dL_law_703 (by decide +kernel) ?_
  refine sw_iadd (pc' := 705) rfl dL_law_704 ?_
  rw [show (nI i) + 1 = nI (i + 1) from nI_add _ _]
  refine sw_iald (j := i + 1) (pc' := 706) rfl dL_law_705 ((pF 0 (by omega) (by omega) (by omega)).trans hs) rfl (by omega) (by omega) ?_
  refine sw_aload_n (pc' := 707) rfl dL_law_706 rfl ?_
  refine sw_iload (pc' := 709) rfl dL_law_707 rfl ?_
  refine sw_iconst (pc' := 710) (v := 2) rfl dL_law_709 (by decide +kernel) ?_
  refine sw_iadd (pc' := 711) rfl dL_law_710 ?_
  rw [show (nI i) + 2 = nI (i + 2) from nI_add _ _]
  refine sw_iald (j := i + 2) (pc' := 712) rfl dL_law_711 ((pF 0 (by omega) (by omega) (by omega)).trans hs) rfl (by omega) (by omega) ?_
  refine sw_aload_n (pc' := 713) rfl dL_law_712 rfl ?_
  refine sw_iload (pc' := 715) rfl dL_law_713 rfl ?_
  refine sw_iconst (pc' := 716) (v := 3) rfl dL_law_715 (by decide +kernel) ?_
  refine sw_iadd (pc' := 717) rfl dL_law_716 ?_
  rw [show (nI i) + 3 = nI (i + 3) from nI_add _ _]
  refine sw_iald (j := i + 3) (pc' := 718) rfl dL_law_717 ((pF 0 (by omega) (by omega) (by omega)).trans hs) rfl (by omega) (by omega) ?_
  have hQ2 := hQ.fr (fun i a b => pF i (by omega) (by omega) (by omega))
  obtain ⟨ρ, τ, hM, hA⟩ := id hQ2
  refine sw_V (M' := MX5_change) (d' := d - 1) (bc' := 1) (bs' := 12) (ci := 6) (as := [_, _, _]) dL_law_718 w_1259 ok_X5_change (q_change hQ2 (hV.iv hN) (by omega) (by omega) (Nat.le_refl _) (Nat.le_refl _)) hM.ob rfl (by omega) (Nat.le_of_ble_eq_true rfl) (by omega) (by omega) (fun E h' n' _ z => pmc_x z) (pmc_k ox_change (fun u un ub uk uv uR uF => ?_))
  refine sw_istore (pc' := 723) (lv' := [(6, _), (5, _), (4, _), (3, _), (2, _), (1, _), (0, _)]) rfl dL_law_721 (by decide +kernel) rfl ?_
  refine sw_aload_n (pc' := 724) rfl dL_law_723 rfl ?_
  obtain ⟨uρ, uτ, uM, uA⟩ := id uR
  refine sw_V (M' := MX5_thrown) (d' := d - 1) (bc' := 0) (bs' := 0) (ci := 6) (as := []) dL_law_724 w_1157 ok_X5_thrown (q_thrown uM) uM.ob rfl (by omega) (Nat.le_of_ble_eq_true rfl) (Nat.zero_le _) (Nat.zero_le _) (fun E h' n' _ z => det_x z) (det_k ?_)
  refine sw_iload (pc' := 729) rfl dL_law_727 rfl ?_
  refine sw_icmp_eq (pc' := 732) (tgt := 734) rfl dL_law_729 (by decide +kernel) (fun c729 => ?_) (fun c729 => ?_)
  · refine sw_iload (pc' := 736) rfl dL_law_734 rfl ?_
    refine sw_if_ne (pc' := 739) (tgt := 752) rfl dL_law_736 (by decide +kernel) (fun c736 => ?_) (fun c736 => ?_)
    · refine sw_goto (tgt := 3123) dL_law_752 (by decide +kernel) ?_
      have J : LI L xs u un (opChange σ (xs (i + 1)) (xs (i + 2)) (xs (i + 3))).2 (N + 12) := ⟨pR.frT (fun i hi => uF i (by omega) (by omega)), ⟨_, uR⟩, hT.fr (fun i hi => (uF i (by omega) (by omega)).trans (pF i (by omega) (by omega) (by omega))), iv_change hV, ⟨_, _, (uF 158 (by omega) (by omega)).trans pO⟩, (uF 0 (by omega) (by omega)).trans ((pF 0 (by omega) (by omega) (by omega)).trans hs), by omega⟩
      exact SW.pick [2, 3, 4, 5, 6] rfl ((K u un _ (by omega) J).bud (by omega) (by omega))
    · refine sw_aload_n (pc' := 740) rfl dL_law_739 rfl ?_
      refine sw_getN (ci := 5) (k := 0) (pc' := 743) rfl dL_law_740 (by decide +kernel) v_347 ((uF 158 (by omega) (by omega)).trans pO) (by show 100 ≤ _; omega) rfl ?_
      refine sw_iload (pc' := 745) rfl dL_law_743 rfl ?_
      refine sw_i2l (pc' := 746) rfl dL_law_745 ?_
      refine sw_lcmp (pc' := 747) rfl dL_law_746 ?_
      refine sw_if_eq (pc' := 750) (tgt := 752) rfl dL_law_747 (by decide +kernel) (fun c747 => ?_) (fun c747 => ?_)
      · refine sw_goto (tgt := 3123) dL_law_752 (by decide +kernel) ?_
        have J : LI L xs u un (opChange σ (xs (i + 1)) (xs (i + 2)) (xs (i + 3))).2 (N + 12) := ⟨pR.frT (fun i hi => uF i (by omega) (by omega)), ⟨_, uR⟩, hT.fr (fun i hi => (uF i (by omega) (by omega)).trans (pF i (by omega) (by omega) (by omega))), iv_change hV, ⟨_, _, (uF 158 (by omega) (by omega)).trans pO⟩, (uF 0 (by omega) (by omega)).trans ((pF 0 (by omega) (by omega) (by omega)).trans hs), by omega⟩
        exact SW.pick [2, 3, 4, 5, 6] rfl ((K u un _ (by omega) J).bud (by omega) (by omega))
      · obtain ⟨v9, e9⟩ := ox_0 ox_change c736
        exact absurd (by rw [pv v9 e9, uv v9 e9]; exact lg_self _) c747
  · exact absurd rfl c729
theorem lc_7 {L : Nat} {xs : Nat → Int32} {h : AH} {n i N d bc bs : Nat} {σ : CS} {Post : ARes → AH → Nat → Prop} (hI : LI L xs h n σ N) (hN : N < 2 ^ 31) (hL : L ≤ 3072) (hi : i + 6 ≤ L) (hd : 20 ≤ d) (h1 : 380 ≤ bc) (h2 : 4500 ≤ bs) (K : ∀ (h' : AH) (n' : Nat) (σ' : CS), n ≤ n' → LI L xs h' n' σ' (N + 12) → SW SR0 ML_law d (bc - 380) (bs - 4500) 3123 [(4, .int (nI i)), (3, .ref 158), (2, .ref 135), (1, .ref 100), (0, .ref 0)] [] h' n' Post) : SW SR0 ML_law d bc bs 755 [(4, .int (nI i)), (3, .ref 158), (2, .ref 135), (1, .ref 100), (0, .ref 0)] [] h n Post := by
  obtain ⟨hR, ⟨th, hQ⟩, hT, hV, ⟨w, s, hO⟩, hs, hn⟩ := hI
  refine sw_aload_n (pc' := 756) rfl dL_law_755 rfl ?_
  refine sw_aload_n (pc' := 757) rfl dL_law_756 rfl ?_
  refine sw_iload (pc' := 759) rfl dL_law_757 rfl ?_
  refine sw_iconst (pc' := 760) (v := 1) rfl dL_law_759 (by decide +kernel) ?_
  refine sw_iadd (pc' := 761) rfl dL_law_760 ?_
  rw [show (nI i) + 1 = nI (i + 1) from nI_add _ _]
  refine sw_iald (j := i + 1) (pc' := 762) rfl dL_law_761 hs rfl (by omega) (by omega) ?_
  refine sw_aload_n (pc' := 763) rfl dL_law_762 rfl ?_
  refine sw_iload (pc' := 765) rfl dL_law_763 rfl ?_
  refine sw_iconst (pc' := 766) (v := 2) rfl dL_law_765 (by decide +kernel) ?_
  refine sw_iadd (pc' := 767) rfl dL_law_766 ?_
  rw [show (nI i) + 2 = nI (i + 2) from nI_add _ _]
  refine sw_iald (j := i + 2) (pc' := 768) rfl dL_law_767 hs rfl (by omega) (by omega) ?_
  refine sw_aload_n (pc' := 769) rfl dL_law_768 rfl ?_
  refine sw_iload (pc' := 771) rfl dL_law_769 rfl ?_
  refine sw_iconst (pc' := 772) (v := 3) rfl dL_law_771 (by decide +kernel) ?_
  refine sw_iadd (pc' := 773) rfl dL_law_772 ?_
  rw [show (nI i) + 3 = nI (i + 3) from nI_add _ _]
  refine sw_iald (j := i + 3) (pc' := 774) rfl dL_law_773 hs rfl (by omega) (by omega) ?_
  refine sw_aload_n (pc' := 775) rfl dL_law_774 rfl ?_
  refine sw_S (M' := ML_insert) (d' := d - 1) (bc' := 60) (bs' := 400) (as := [_, _, _, _, _]) dL_law_775 w_550 ok_L_insert (L_insert hR hT hV hN hO hn (by omega) (Nat.le_refl _) (Nat.le_refl _)) (by omega) (Nat.le_of_ble_eq_true rfl) (by omega) (by omega) (fun E h' n' _ z => lpo_x z) (lpo_k (fun p pn pw ps pk pR pO pv pF => ?_))
  refine sw_istore (pc' := 780) (lv' := [(5, _), (4, _), (3, _), (2, _), (1, _), (0, _)]) rfl dL_law_778 (by decide +kernel) rfl ?_
  refine sw_aload_n (pc' := 781) rfl dL_law_780 rfl ?_
  refine sw_aload_n (pc' := 782) rfl dL_law_781 rfl ?_
  refine sw_iload (pc' := 784) rfl dL_law_782 rfl ?_
  refine sw_iconst (pc' := 785) (v := 1) rfl dL_law_784 (by decide +kernel) ?_
  refine sw_iadd (pc' := 786) rfl dL_law_785 ?_
  rw [show (nI i) + 1 = nI (i + 1) from nI_add _ _]
  refine sw_iald (j := i + 1) (pc' := 787) rfl dL_law_786 ((pF 0 (by omega) (by omega) (by omega)).trans hs) rfl (by omega) (by omega) ?_
  refine sw_aload_n (pc' := 788) rfl dL_law_787 rfl ?_
  refine sw_iload (pc' := 790) rfl dL_law_788 rfl ?_
  refine sw_iconst (pc' := 791) (v := 2) rfl dL_law_790 (by decide +kernel) ?_
  refine sw_iadd (pc' := 792) rfl dL_law_791 ?_
  rw [show (nI i) + 2 = nI (i + 2) from nI_add _ _]
  refine sw_iald (j := i + 2) (pc' := 793) rfl dL_law_792 ((pF 0 (by omega) (by omega) (by omega)).trans hs) rfl (by omega) (by omega) ?_
  refine sw_aload_n (pc' := 794) rfl dL_law_793 rfl ?_
  refine sw_iload (pc' := 796) rfl dL_law_794 rfl ?_
  refine sw_iconst (pc' := 797) (v := 3) rfl dL_law_796 (by decide +kernel) ?_
  refine sw_iadd (pc' := 798) rfl dL_law_797 ?_
  rw [show (nI i) + 3 = nI (i + 3) from nI_add _ _]
  refine sw_iald (j := i + 3) (pc' := 799) rfl dL_law_798 ((pF 0 (by omega) (by omega) (by omega)).trans hs) rfl (by omega) (by omega) ?_
  have hQ2 := hQ.fr (fun i a b => pF i (by omega) (by omega) (by omega))
  obtain ⟨ρ, τ, hM, hA⟩ := id hQ2
  refine sw_V (M' := MX5_insert) (d' := d - 1) (bc' := 1) (bs' := 12) (ci := 6) (as := [_, _, _]) dL_law_799 w_1270 ok_X5_insert (q_insert hQ2 (hV.iv hN) (by omega) (by omega) (Nat.le_refl _) (Nat.le_refl _)) hM.ob rfl (by omega) (Nat.le_of_ble_eq_true rfl) (by omega) (by omega) (fun E h' n' _ z => pmc_x z) (pmc_k ox_insert (fun u un ub uk uv uR uF => ?_))
  refine sw_istore (pc' := 804) (lv' := [(6, _), (5, _), (4, _), (3, _), (2, _), (1, _), (0, _)]) rfl dL_law_802 (by decide +kernel) rfl ?_
  refine sw_aload_n (pc' := 805) rfl dL_law_804 rfl ?_
  obtain ⟨uρ, uτ, uM, uA⟩ := id uR
  refine sw_V (M' := MX5_thrown) (d' := d - 1) (bc' := 0) (bs' := 0) (ci := 6) (as := []) dL_law_805 w_1157 ok_X5_thrown (q_thrown uM) uM.ob rfl (by omega) (Nat.le_of_ble_eq_true rfl) (Nat.zero_le _) (Nat.zero_le _) (fun E h' n' _ z => det_x z) (det_k ?_)
  refine sw_iload (pc' := 810) rfl dL_law_808 rfl ?_
  refine sw_icmp_eq (pc' := 813) (tgt := 815) rfl dL_law_810 (by decide +kernel) (fun c810 => ?_) (fun c810 => ?_)
  · refine sw_iload (pc' := 817) rfl dL_law_815 rfl ?_
    refine sw_if_ne (pc' := 820) (tgt := 833) rfl dL_law_817 (by decide +kernel) (fun c817 => ?_) (fun c817 => ?_)
    · refine sw_goto (tgt := 3123) dL_law_833 (by decide +kernel) ?_
      have J : LI L xs u un (opInsert σ (xs (i + 1)) (xs (i + 2)) (xs (i + 3))).2 (N + 12) := ⟨pR.frT (fun i hi => uF i (by omega) (by omega)), ⟨_, uR⟩, hT.fr (fun i hi => (uF i (by omega) (by omega)).trans (pF i (by omega) (by omega) (by omega))), iv_insert hV, ⟨_, _, (uF 158 (by omega) (by omega)).trans pO⟩, (uF 0 (by omega) (by omega)).trans ((pF 0 (by omega) (by omega) (by omega)).trans hs), by omega⟩
      exact SW.pick [2, 3, 4, 5, 6] rfl ((K u un _ (by omega) J).bud (by omega) (by omega))
    · refine sw_aload_n (pc' := 821) rfl dL_law_820 rfl ?_
      refine sw_getN (ci := 5) (k := 0) (pc' := 824) rfl dL_law_821 (by decide +kernel) v_347 ((uF 158 (by omega) (by omega)).trans pO) (by show 100 ≤ _; omega) rfl ?_
      refine sw_iload (pc' := 826) rfl dL_law_824 rfl ?_
      refine sw_i2l (pc' := 827) rfl dL_law_826 ?_
      refine sw_lcmp (pc' := 828) rfl dL_law_827 ?_
      refine sw_if_eq (pc' := 831) (tgt := 833) rfl dL_law_828 (by decide +kernel) (fun c828 => ?_) (fun c828 => ?_)
      · refine sw_goto (tgt := 3123) dL_law_833 (by decide +kernel) ?_
        have J : LI L xs u un (opInsert σ (xs (i + 1)) (xs (i + 2)) (xs (i + 3))).2 (N + 12) := ⟨pR.frT (fun i hi => uF i (by omega) (by omega)), ⟨_, uR⟩, hT.fr (fun i hi => (uF i (by omega) (by omega)).trans (pF i (by omega) (by omega) (by omega))), iv_insert hV, ⟨_, _, (uF 158 (by omega) (by omega)).trans pO⟩, (uF 0 (by omega) (by omega)).trans ((pF 0 (by omega) (by omega) (by omega)).trans hs), by omega⟩
        exact SW.pick [2, 3, 4, 5, 6] rfl ((K u un _ (by omega) J).bud (by omega) (by omega))
      · obtain ⟨v9, e9⟩ := ox_0 ox_insert c817
        exact absurd (by rw [pv v9 e9, uv v9 e9]; exact lg_self _) c828
  · exact absurd rfl c810
theorem lc_8 {L : Nat} {xs : Nat → Int32} {h : AH} {n i N d bc bs : Nat} {σ : CS} {Post : ARes → AH → Nat → Prop} (hI : LI L xs h n σ N) (hN : N < 2 ^ 31) (hL : L ≤ 3072) (hi : i + 6 ≤ L) (hd : 20 ≤ d) (h1 : 380 ≤ bc) (h2 : 4500 ≤ bs) (K : ∀ (h' : AH) (n' : Nat) (σ' : CS), n ≤ n' → LI L xs h' n' σ' (N + 12) → SW SR0 ML_law d (bc - 380) (bs - 4500) 3123 [(4, .int (nI i)), (3, .ref 158), (2, .ref 135), (1, .ref 100), (0, .ref 0)] [] h' n' Post) : SW SR0 ML_law d bc bs 836 [(4, .int (nI i)), (3, .ref 158), (2, .ref 135), (1, .ref 100), (0, .ref 0)] [] h n Post := by
  obtain ⟨hR, ⟨th, hQ⟩, hT, hV, ⟨w, s, hO⟩, hs, hn⟩ := hI
  refine sw_aload_n (pc' := 837) rfl dL_law_836 rfl ?_
  refine sw_aload_n (pc' := 838) rfl dL_law_837 rfl ?_
  refine sw_iload (pc' := 840) rfl dL_law_838 rfl ?_
  refine sw_iconst (pc' := 841) (v := 1) rfl dL_law_840 (by decide +kernel) ?_
  refine sw_iadd (pc' := 842) rfl dL_law_841 ?_
  rw [show (nI i) + 1 = nI (i + 1) from nI_add _ _]
  refine sw_iald (j := i + 1) (pc' := 843) rfl dL_law_842 hs rfl (by omega) (by omega) ?_
  refine sw_aload_n (pc' := 844) rfl dL_law_843 rfl ?_
  refine sw_iload (pc' := 846) rfl dL_law_844 rfl ?_
  refine sw_iconst (pc' := 847) (v := 2) rfl dL_law_846 (by decide +kernel) ?_
  refine sw_iadd (pc' := 848) rfl dL_law_847 ?_
  rw [show (nI i) + 2 = nI (i + 2) from nI_add _ _]
  refine sw_iald (j := i + 2) (pc' := 849) rfl dL_law_848 hs rfl (by omega) (by omega) ?_
  refine sw_aload_n (pc' := 850) rfl dL_law_849 rfl ?_
  refine sw_S (M' := ML_remove) (d' := d - 1) (bc' := 60) (bs' := 400) (as := [_, _, _, _]) dL_law_850 w_557 ok_L_remove (L_remove hR hT hV hN hO hn (by omega) (Nat.le_refl _) (Nat.le_refl _)) (by omega) (Nat.le_of_ble_eq_true rfl) (by omega) (by omega) (fun E h' n' _ z => lpo_x z) (lpo_k (fun p pn pw ps pk pR pO pv pF => ?_))
  refine sw_istore (pc' := 855) (lv' := [(5, _), (4, _), (3, _), (2, _), (1, _), (0, _)]) rfl dL_law_853 (by decide +kernel) rfl ?_
  refine sw_aload_n (pc' := 856) rfl dL_law_855 rfl ?_
  refine sw_aload_n (pc' := 857) rfl dL_law_856 rfl ?_
  refine sw_iload (pc' := 859) rfl dL_law_857 rfl ?_
  refine sw_iconst (pc' := 860) (v := 1) rfl dL_law_859 (by decide +kernel) ?_
  refine sw_iadd (pc' := 861) rfl dL_law_860 ?_
  rw [show (nI i) + 1 = nI (i + 1) from nI_add _ _]
  refine sw_iald (j := i + 1) (pc' := 862) rfl dL_law_861 ((pF 0 (by omega) (by omega) (by omega)).trans hs) rfl (by omega) (by omega) ?_
  refine sw_aload_n (pc' := 863) rfl dL_law_862 rfl ?_
  refine sw_iload (pc' := 865) rfl dL_law_863 rfl ?_
  refine sw_iconst (pc' := 866) (v := 2) rfl dL_law_865 (by decide +kernel) ?_
  refine sw_iadd (pc' := 867) rfl dL_law_866 ?_
  rw [show (nI i) + 2 = nI (i + 2) from nI_add _ _]
  refine sw_iald (j := i + 2) (pc' := 868) rfl dL_law_867 ((pF 0 (by omega) (by omega) (by omega)).trans hs) rfl (by omega) (by omega) ?_
  have hQ2 := hQ.fr (fun i a b => pF i (by omega) (by omega) (by omega))
  obtain ⟨ρ, τ, hM, hA⟩ := id hQ2
  refine sw_V (M' := MX5_remove) (d' := d - 1) (bc' := 1) (bs' := 12) (ci := 6) (as := [_, _]) dL_law_868 w_1274 ok_X5_remove (q_remove hQ2 (hV.iv hN) (by omega) (by omega) (Nat.le_refl _) (Nat.le_refl _)) hM.ob rfl (by omega) (Nat.le_of_ble_eq_true rfl) (by omega) (by omega) (fun E h' n' _ z => pmc_x z) (pmc_k ox_remove (fun u un ub uk uv uR uF => ?_))
  refine sw_istore (pc' := 873) (lv' := [(6, _), (5, _), (4, _), (3, _), (2, _), (1, _), (0, _)]) rfl dL_law_871 (by decide +kernel) rfl ?_
  refine sw_aload_n (pc' := 874) rfl dL_law_873 rfl ?_
  obtain ⟨uρ, uτ, uM, uA⟩ := id uR
  refine sw_V (M' := MX5_thrown) (d' := d - 1) (bc' := 0) (bs' := 0) (ci := 6) (as := []) dL_law_874 w_1157 ok_X5_thrown (q_thrown uM) uM.ob rfl (by omega) (Nat.le_of_ble_eq_true rfl) (Nat.zero_le _) (Nat.zero_le _) (fun E h' n' _ z => det_x z) (det_k ?_)
  refine sw_iload (pc' := 879) rfl dL_law_877 rfl ?_
  refine sw_icmp_eq (pc' := 882) (tgt := 884) rfl dL_law_879 (by decide +kernel) (fun c879 => ?_) (fun c879 => ?_)
  · refine sw_iload (pc' := 886) rfl dL_law_884 rfl ?_
    refine sw_if_ne (pc' := 889) (tgt := 902) rfl dL_law_886 (by decide +kernel) (fun c886 => ?_) (fun c886 => ?_)
    · refine sw_goto (tgt := 3123) dL_law_902 (by decide +kernel) ?_
      have J : LI L xs u un (opRemove σ (xs (i + 1)) (xs (i + 2))).2 (N + 12) := ⟨pR.frT (fun i hi => uF i (by omega) (by omega)), ⟨_, uR⟩, hT.fr (fun i hi => (uF i (by omega) (by omega)).trans (pF i (by omega) (by omega) (by omega))), iv_remove hV, ⟨_, _, (uF 158 (by omega) (by omega)).trans pO⟩, (uF 0 (by omega) (by omega)).trans ((pF 0 (by omega) (by omega) (by omega)).trans hs), by omega⟩
      exact SW.pick [2, 3, 4, 5, 6] rfl ((K u un _ (by omega) J).bud (by omega) (by omega))
    · refine sw_aload_n (pc' := 890) rfl dL_law_889 rfl ?_
      refine sw_getN (ci := 5) (k := 0) (pc' := 893) rfl dL_law_890 (by decide +kernel) v_347 ((uF 158 (by omega) (by omega)).trans pO) (by show 100 ≤ _; omega) rfl ?_
      refine sw_iload (pc' := 895) rfl dL_law_893 rfl ?_
      refine sw_i2l (pc' := 896) rfl dL_law_895 ?_
      refine sw_lcmp (pc' := 897) rfl dL_law_896 ?_
      refine sw_if_eq (pc' := 900) (tgt := 902) rfl dL_law_897 (by decide +kernel) (fun c897 => ?_) (fun c897 => ?_)
      · refine sw_goto (tgt := 3123) dL_law_902 (by decide +kernel) ?_
        have J : LI L xs u un (opRemove σ (xs (i + 1)) (xs (i + 2))).2 (N + 12) := ⟨pR.frT (fun i hi => uF i (by omega) (by omega)), ⟨_, uR⟩, hT.fr (fun i hi => (uF i (by omega) (by omega)).trans (pF i (by omega) (by omega) (by omega))), iv_remove hV, ⟨_, _, (uF 158 (by omega) (by omega)).trans pO⟩, (uF 0 (by omega) (by omega)).trans ((pF 0 (by omega) (by omega) (by omega)).trans hs), by omega⟩
        exact SW.pick [2, 3, 4, 5, 6] rfl ((K u un _ (by omega) J).bud (by omega) (by omega))
      · obtain ⟨v9, e9⟩ := ox_0 ox_remove c886
        exact absurd (by rw [pv v9 e9, uv v9 e9]; exact lg_self _) c897
  · exact absurd rfl c879
theorem lc_9 {L : Nat} {xs : Nat → Int32} {h : AH} {n i N d bc bs : Nat} {σ : CS} {Post : ARes → AH → Nat → Prop} (hI : LI L xs h n σ N) (hN : N < 2 ^ 31) (hL : L ≤ 3072) (hi : i + 6 ≤ L) (hd : 20 ≤ d) (h1 : 380 ≤ bc) (h2 : 4500 ≤ bs) (K : ∀ (h' : AH) (n' : Nat) (σ' : CS), n ≤ n' → LI L xs h' n' σ' (N + 12) → SW SR0 ML_law d (bc - 380) (bs - 4500) 3123 [(4, .int (nI i)), (3, .ref 158), (2, .ref 135), (1, .ref 100), (0, .ref 0)] [] h' n' Post) : SW SR0 ML_law d bc bs 905 [(4, .int (nI i)), (3, .ref 158), (2, .ref 135), (1, .ref 100), (0, .ref 0)] [] h n Post := by
  obtain ⟨hR, ⟨th, hQ⟩, hT, hV, ⟨w, s, hO⟩, hs, hn⟩ := hI
  refine sw_aload_n (pc' := 906) rfl dL_law_905 rfl ?_
  refine sw_aload_n (pc' := 907) rfl dL_law_906 rfl ?_
  refine sw_iload (pc' := 909) rfl dL_law_907 rfl ?_
  refine sw_iconst (pc' := 910) (v := 1) rfl dL_law_909 (by decide +kernel) ?_
  refine sw_iadd (pc' := 911) rfl dL_law_910 ?_
  rw [show (nI i) + 1 = nI (i + 1) from nI_add _ _]
  refine sw_iald (j := i + 1) (pc' := 912) rfl dL_law_911 hs rfl (by omega) (by omega) ?_
  refine sw_aload_n (pc' := 913) rfl dL_law_912 rfl ?_
  refine sw_S (M' := ML_turn) (d' := d - 1) (bc' := 60) (bs' := 400) (as := [_, _, _]) dL_law_913 w_564 ok_L_turn (L_turn hR hT hV hN hO hn (by omega) (Nat.le_refl _) (Nat.le_refl _)) (by omega) (Nat.le_of_ble_eq_true rfl) (by omega) (by omega) (fun E h' n' _ z => lpo_x z) (lpo_k (fun p pn pw ps pk pR pO pv pF => ?_))
  refine sw_istore (pc' := 918) (lv' := [(5, _), (4, _), (3, _), (2, _), (1, _), (0, _)]) rfl dL_law_916 (by decide +kernel) rfl ?_
  refine sw_aload_n (pc' := 919) rfl dL_law_918 rfl ?_
  refine sw_aload_n (pc' := 920) rfl dL_law_919 rfl ?_
  refine sw_iload (pc' := 922) rfl dL_law_920 rfl ?_
  refine sw_iconst (pc' := 923) (v := 1) rfl dL_law_922 (by decide +kernel) ?_
  refine sw_iadd (pc' := 924) rfl dL_law_923 ?_
  rw [show (nI i) + 1 = nI (i + 1) from nI_add _ _]
  refine sw_iald (j := i + 1) (pc' := 925) rfl dL_law_924 ((pF 0 (by omega) (by omega) (by omega)).trans hs) rfl (by omega) (by omega) ?_
  have hQ2 := hQ.fr (fun i a b => pF i (by omega) (by omega) (by omega))
  obtain ⟨ρ, τ, hM, hA⟩ := id hQ2
  refine sw_V (M' := MX5_turn) (d' := d - 1) (bc' := 1) (bs' := 12) (ci := 6) (as := [_]) dL_law_925 w_1278 ok_X5_turn (q_turn hQ2 (hV.iv hN) (by omega) (by omega) (Nat.le_refl _) (Nat.le_refl _)) hM.ob rfl (by omega) (Nat.le_of_ble_eq_true rfl) (by omega) (by omega) (fun E h' n' _ z => pmc_x z) (pmc_k ox_turn (fun u un ub uk uv uR uF => ?_))
  refine sw_istore (pc' := 930) (lv' := [(6, _), (5, _), (4, _), (3, _), (2, _), (1, _), (0, _)]) rfl dL_law_928 (by decide +kernel) rfl ?_
  refine sw_aload_n (pc' := 931) rfl dL_law_930 rfl ?_
  obtain ⟨uρ, uτ, uM, uA⟩ := id uR
  refine sw_V (M' := MX5_thrown) (d' := d - 1) (bc' := 0) (bs' := 0) (ci := 6) (as := []) dL_law_931 w_1157 ok_X5_thrown (q_thrown uM) uM.ob rfl (by omega) (Nat.le_of_ble_eq_true rfl) (Nat.zero_le _) (Nat.zero_le _) (fun E h' n' _ z => det_x z) (det_k ?_)
  refine sw_iload (pc' := 936) rfl dL_law_934 rfl ?_
  refine sw_icmp_eq (pc' := 939) (tgt := 941) rfl dL_law_936 (by decide +kernel) (fun c936 => ?_) (fun c936 => ?_)
  · refine sw_iload (pc' := 943) rfl dL_law_941 rfl ?_
    refine sw_if_ne (pc' := 946) (tgt := 959) rfl dL_law_943 (by decide +kernel) (fun c943 => ?_) (fun c943 => ?_)
    · refine sw_goto (tgt := 3123) dL_law_959 (by decide +kernel) ?_
      have J : LI L xs u un (opTurn σ (xs (i + 1))).2 (N + 12) := ⟨pR.frT (fun i hi => uF i (by omega) (by omega)), ⟨_, uR⟩, hT.fr (fun i hi => (uF i (by omega) (by omega)).trans (pF i (by omega) (by omega) (by omega))), iv_turn hV, ⟨_, _, (uF 158 (by omega) (by omega)).trans pO⟩, (uF 0 (by omega) (by omega)).trans ((pF 0 (by omega) (by omega) (by omega)).trans hs), by omega⟩
      exact SW.pick [2, 3, 4, 5, 6] rfl ((K u un _ (by omega) J).bud (by omega) (by omega))
    · refine sw_aload_n (pc' := 947) rfl dL_law_946 rfl ?_
      refine sw_getN (ci := 5) (k := 0) (pc' := 950) rfl dL_law_947 (by decide +kernel) v_347 ((uF 158 (by omega) (by omega)).trans pO) (by show 100 ≤ _; omega) rfl ?_
      refine sw_iload (pc' := 952) rfl dL_law_950 rfl ?_
      refine sw_i2l (pc' := 953) rfl dL_law_952 ?_
      refine sw_lcmp (pc' := 954) rfl dL_law_953 ?_
      refine sw_if_eq (pc' := 957) (tgt := 959) rfl dL_law_954 (by decide +kernel) (fun c954 => ?_) (fun c954 => ?_)
      · refine sw_goto (tgt := 3123) dL_law_959 (by decide +kernel) ?_
        have J : LI L xs u un (opTurn σ (xs (i + 1))).2 (N + 12) := ⟨pR.frT (fun i hi => uF i (by omega) (by omega)), ⟨_, uR⟩, hT.fr (fun i hi => (uF i (by omega) (by omega)).trans (pF i (by omega) (by omega) (by omega))), iv_turn hV, ⟨_, _, (uF 158 (by omega) (by omega)).trans pO⟩, (uF 0 (by omega) (by omega)).trans ((pF 0 (by omega) (by omega) (by omega)).trans hs), by omega⟩
        exact SW.pick [2, 3, 4, 5, 6] rfl ((K u un _ (by omega) J).bud (by omega) (by omega))
      · obtain ⟨v9, e9⟩ := ox_0 ox_turn c943
        exact absurd (by rw [pv v9 e9, uv v9 e9]; exact lg_self _) c954
  · exact absurd rfl c936
theorem lc_10 {L : Nat} {xs : Nat → Int32} {h : AH} {n i N d bc bs : Nat} {σ : CS} {Post : ARes → AH → Nat → Prop} (hI : LI L xs h n σ N) (hN : N < 2 ^ 31) (hL : L ≤ 3072) (hi : i + 6 ≤ L) (hd : 20 ≤ d) (h1 : 380 ≤ bc) (h2 : 4500 ≤ bs) (K : ∀ (h' : AH) (n' : Nat) (σ' : CS), n ≤ n' → LI L xs h' n' σ' (N + 12) → SW SR0 ML_law d (bc - 380) (bs - 4500) 3123 [(4, .int (nI i)), (3, .ref 158), (2, .ref 135), (1, .ref 100), (0, .ref 0)] [] h' n' Post) : SW SR0 ML_law d bc bs 962 [(4, .int (nI i)), (3, .ref 158), (2, .ref 135), (1, .ref 100), (0, .ref 0)] [] h n Post := by
  obtain ⟨hR, ⟨th, hQ⟩, hT, hV, ⟨w, s, hO⟩, hs, hn⟩ := hI
  refine sw_aload_n (pc' := 963) rfl dL_law_962 rfl ?_
  refine sw_aload_n (pc' := 964) rfl dL_law_963 rfl ?_
  refine sw_iload (pc' := 966) rfl dL_law_964 rfl ?_
  refine sw_iconst (pc' := 967) (v := 1) rfl dL_law_966 (by decide +kernel) ?_
  refine sw_iadd (pc' := 968) rfl dL_law_967 ?_
  rw [show (nI i) + 1 = nI (i + 1) from nI_add _ _]
  refine sw_iald (j := i + 1) (pc' := 969) rfl dL_law_968 hs rfl (by omega) (by omega) ?_
  refine sw_aload_n (pc' := 970) rfl dL_law_969 rfl ?_
  refine sw_iload (pc' := 972) rfl dL_law_970 rfl ?_
  refine sw_iconst (pc' := 973) (v := 2) rfl dL_law_972 (by decide +kernel) ?_
  refine sw_iadd (pc' := 974) rfl dL_law_973 ?_
  rw [show (nI i) + 2 = nI (i + 2) from nI_add _ _]
  refine sw_iald (j := i + 2) (pc' := 975) rfl dL_law_974 hs rfl (by omega) (by omega) ?_
  refine sw_aload_n (pc' := 976) rfl dL_law_975 rfl ?_
  refine sw_S (M' := ML_rotate) (d' := d - 1) (bc' := 60) (bs' := 400) (as := [_, _, _, _]) dL_law_976 w_576 ok_L_rotate (L_rotate hR hT hV hN hO hn (by omega) (Nat.le_refl _) (Nat.le_refl _)) (by omega) (Nat.le_of_ble_eq_true rfl) (by omega) (by omega) (fun E h' n' _ z => lpo_x z) (lpo_k (fun p pn pw ps pk pR pO pv pF => ?_))
  refine sw_istore (pc' := 981) (lv' := [(5, _), (4, _), (3, _), (2, _), (1, _), (0, _)]) rfl dL_law_979 (by decide +kernel) rfl ?_
  refine sw_aload_n (pc' := 982) rfl dL_law_981 rfl ?_
  refine sw_aload_n (pc' := 983) rfl dL_law_982 rfl ?_
  refine sw_iload (pc' := 985) rfl dL_law_983 rfl ?_
  refine sw_iconst (pc' := 986) (v := 1) rfl dL_law_985 (by decide +kernel) ?_
  refine sw_iadd (pc' := 987) rfl dL_law_986 ?_
  rw [show (nI i) + 1 = nI (i + 1) from nI_add _ _]
  refine sw_iald (j := i + 1) (pc' := 988) rfl dL_law_987 ((pF 0 (by omega) (by omega) (by omega)).trans hs) rfl (by omega) (by omega) ?_
  refine sw_aload_n (pc' := 989) rfl dL_law_988 rfl ?_
  refine sw_iload (pc' := 991) rfl dL_law_989 rfl ?_
  refine sw_iconst (pc' := 992) (v := 2) rfl dL_law_991 (by decide +kernel) ?_
  refine sw_iadd (pc' := 993) rfl dL_law_992 ?_
  rw [show (nI i) + 2 = nI (i + 2) from nI_add _ _]
  refine sw_iald (j := i + 2) (pc' := 994) rfl dL_law_993 ((pF 0 (by omega) (by omega) (by omega)).trans hs) rfl (by omega) (by omega) ?_
  have hQ2 := hQ.fr (fun i a b => pF i (by omega) (by omega) (by omega))
  obtain ⟨ρ, τ, hM, hA⟩ := id hQ2
  refine sw_V (M' := MX5_rotate) (d' := d - 1) (bc' := 1) (bs' := 12) (ci := 6) (as := [_, _]) dL_law_994 w_1282 ok_X5_rotate (q_rotate hQ2 (hV.iv hN) (by omega) (by omega) (Nat.le_refl _) (Nat.le_refl _)) hM.ob rfl (by omega) (Nat.le_of_ble_eq_true rfl) (by omega) (by omega) (fun E h' n' _ z => pmc_x z) (pmc_k ox_rotate (fun u un ub uk uv uR uF => ?_))
  refine sw_istore (pc' := 999) (lv' := [(6, _), (5, _), (4, _), (3, _), (2, _), (1, _), (0, _)]) rfl dL_law_997 (by decide +kernel) rfl ?_
  refine sw_aload_n (pc' := 1000) rfl dL_law_999 rfl ?_
  obtain ⟨uρ, uτ, uM, uA⟩ := id uR
  refine sw_V (M' := MX5_thrown) (d' := d - 1) (bc' := 0) (bs' := 0) (ci := 6) (as := []) dL_law_1000 w_1157 ok_X5_thrown (q_thrown uM) uM.ob rfl (by omega) (Nat.le_of_ble_eq_true rfl) (Nat.zero_le _) (Nat.zero_le _) (fun E h' n' _ z => det_x z) (det_k ?_)
  refine sw_iload (pc' := 1005) rfl dL_law_1003 rfl ?_
  refine sw_icmp_eq (pc' := 1008) (tgt := 1010) rfl dL_law_1005 (by decide +kernel) (fun c1005 => ?_) (fun c1005 => ?_)
  · refine sw_iload (pc' := 1012) rfl dL_law_1010 rfl ?_
    refine sw_if_ne (pc' := 1015) (tgt := 1028) rfl dL_law_1012 (by decide +kernel) (fun c1012 => ?_) (fun c1012 => ?_)
    · refine sw_goto (tgt := 3123) dL_law_1028 (by decide +kernel) ?_
      have J : LI L xs u un (opRotate σ (xs (i + 1)) (xs (i + 2))).2 (N + 12) := ⟨pR.frT (fun i hi => uF i (by omega) (by omega)), ⟨_, uR⟩, hT.fr (fun i hi => (uF i (by omega) (by omega)).trans (pF i (by omega) (by omega) (by omega))), iv_rotate hV, ⟨_, _, (uF 158 (by omega) (by omega)).trans pO⟩, (uF 0 (by omega) (by omega)).trans ((pF 0 (by omega) (by omega) (by omega)).trans hs), by omega⟩
      exact SW.pick [2, 3, 4, 5, 6] rfl ((K u un _ (by omega) J).bud (by omega) (by omega))
    · refine sw_aload_n (pc' := 1016) rfl dL_law_1015 rfl ?_
      refine sw_getN (ci := 5) (k := 0) (pc' := 1019) rfl dL_law_1016 (by decide +kernel) v_347 ((uF 158 (by omega) (by omega)).trans pO) (by show 100 ≤ _; omega) rfl ?_
      refine sw_iload (pc' := 1021) rfl dL_law_1019 rfl ?_
      refine sw_i2l (pc' := 1022) rfl dL_law_1021 ?_
      refine sw_lcmp (pc' := 1023) rfl dL_law_1022 ?_
      refine sw_if_eq (pc' := 1026) (tgt := 1028) rfl dL_law_1023 (by decide +kernel) (fun c1023 => ?_) (fun c1023 => ?_)
      · refine sw_goto (tgt := 3123) dL_law_1028 (by decide +kernel) ?_
        have J : LI L xs u un (opRotate σ (xs (i + 1)) (xs (i + 2))).2 (N + 12) := ⟨pR.frT (fun i hi => uF i (by omega) (by omega)), ⟨_, uR⟩, hT.fr (fun i hi => (uF i (by omega) (by omega)).trans (pF i (by omega) (by omega) (by omega))), iv_rotate hV, ⟨_, _, (uF 158 (by omega) (by omega)).trans pO⟩, (uF 0 (by omega) (by omega)).trans ((pF 0 (by omega) (by omega) (by omega)).trans hs), by omega⟩
        exact SW.pick [2, 3, 4, 5, 6] rfl ((K u un _ (by omega) J).bud (by omega) (by omega))
      · obtain ⟨v9, e9⟩ := ox_0 ox_rotate c1012
        exact absurd (by rw [pv v9 e9, uv v9 e9]; exact lg_self _) c1023
  · exact absurd rfl c1005
theorem lc_11 {L : Nat} {xs : Nat → Int32} {h : AH} {n i N d bc bs : Nat} {σ : CS} {Post : ARes → AH → Nat → Prop} (hI : LI L xs h n σ N) (hN : N < 2 ^ 31) (hL : L ≤ 3072) (hi : i + 6 ≤ L) (hd : 20 ≤ d) (h1 : 380 ≤ bc) (h2 : 4500 ≤ bs) (K : ∀ (h' : AH) (n' : Nat) (σ' : CS), n ≤ n' → LI L xs h' n' σ' (N + 12) → SW SR0 ML_law d (bc - 380) (bs - 4500) 3123 [(4, .int (nI i)), (3, .ref 158), (2, .ref 135), (1, .ref 100), (0, .ref 0)] [] h' n' Post) : SW SR0 ML_law d bc bs 1031 [(4, .int (nI i)), (3, .ref 158), (2, .ref 135), (1, .ref 100), (0, .ref 0)] [] h n Post := by
  obtain ⟨hR, ⟨th, hQ⟩, hT, hV, ⟨w, s, hO⟩, hs, hn⟩ := hI
  refine sw_aload_n (pc' := 1032) rfl dL_law_1031 rfl ?_
  refine sw_aload_n (pc' := 1033) rfl dL_law_1032 rfl ?_
  refine sw_iload (pc' := 1035) rfl dL_law_1033 rfl ?_
  refine sw_iconst (pc' := 1036) (v := 1) rfl dL_law_1035 (by decide +kernel) ?_
  refine sw_iadd (pc' := 1037) rfl dL_law_1036 ?_
  rw [show (nI i) + 1 = nI (i + 1) from nI_add _ _]
  refine sw_iald (j := i + 1) (pc' := 1038) rfl dL_law_1037 hs rfl (by omega) (by omega) ?_
  refine sw_aload_n (pc' := 1039) rfl dL_law_1038 rfl ?_
  refine sw_iload (pc' := 1041) rfl dL_law_1039 rfl ?_
  refine sw_iconst (pc' := 1042) (v := 2) rfl dL_law_1041 (by decide +kernel) ?_
  refine sw_iadd (pc' := 1043) rfl dL_law_1042 ?_
  rw [show (nI i) + 2 = nI (i + 2) from nI_add _ _]
  refine sw_iald (j := i + 2) (pc' := 1044) rfl dL_law_1043 hs rfl (by omega) (by omega) ?_
  refine sw_aload_n (pc' := 1045) rfl dL_law_1044 rfl ?_
  refine sw_iload (pc' := 1047) rfl dL_law_1045 rfl ?_
  refine sw_iconst (pc' := 1048) (v := 3) rfl dL_law_1047 (by decide +kernel) ?_
  refine sw_iadd (pc' := 1049) rfl dL_law_1048 ?_
  rw [show (nI i) + 3 = nI (i + 3) from nI_add _ _]
  refine sw_iald (j := i + 3) (pc' := 1050) rfl dL_law_1049 hs rfl (by omega) (by omega) ?_
  refine sw_aload_n (pc' := 1051) rfl dL_law_1050 rfl ?_
  refine sw_S (M' := ML_swap) (d' := d - 1) (bc' := 60) (bs' := 400) (as := [_, _, _, _, _]) dL_law_1051 w_592 ok_L_swap (L_swap hR hT hV hN hO hn (by omega) (Nat.le_refl _) (Nat.le_refl _)) (by omega) (Nat.le_of_ble_eq_true rfl) (by omega) (by omega) (fun E h' n' _ z => lpo_x z) (lpo_k (fun p pn pw ps pk pR pO pv pF => ?_))
  refine sw_istore (pc' := 1056) (lv' := [(5, _), (4, _), (3, _), (2, _), (1, _), (0, _)]) rfl dL_law_1054 (by decide +kernel) rfl ?_
  refine sw_aload_n (pc' := 1057) rfl dL_law_1056 rfl ?_
  refine sw_aload_n (pc' := 1058) rfl dL_law_1057 rfl ?_
  refine sw_iload (pc' := 1060) rfl dL_law_1058 rfl ?_
  refine sw_iconst (pc' := 1061) (v := 1) rfl dL_law_1060 (by decide +kernel) ?_
  refine sw_iadd (pc' := 1062) rfl dL_law_1061 ?_
  rw [show (nI i) + 1 = nI (i + 1) from nI_add _ _]
  refine sw_iald (j := i + 1) (pc' := 1063) rfl dL_law_1062 ((pF 0 (by omega) (by omega) (by omega)).trans hs) rfl (by omega) (by omega) ?_
  refine sw_aload_n (pc' := 1064) rfl dL_law_1063 rfl ?_
  refine sw_iload (pc' := 1066) rfl dL_law_1064 rfl ?_
  refine sw_iconst (pc' := 1067) (v := 2) rfl dL_law_1066 (by decide +kernel) ?_
  refine sw_iadd (pc' := 1068) rfl dL_law_1067 ?_
  rw [show (nI i) + 2 = nI (i + 2) from nI_add _ _]
  refine sw_iald (j := i + 2) (pc' := 1069) rfl dL_law_1068 ((pF 0 (by omega) (by omega) (by omega)).trans hs) rfl (by omega) (by omega) ?_
  refine sw_aload_n (pc' := 1070) rfl dL_law_1069 rfl ?_
  refine sw_iload (pc' := 1072) rfl dL_law_1070 rfl ?_
  refine sw_iconst (pc' := 1073) (v := 3) rfl dL_law_1072 (by decide +kernel) ?_
  refine sw_iadd (pc' := 1074) rfl dL_law_1073 ?_
  rw [show (nI i) + 3 = nI (i + 3) from nI_add _ _]
  refine sw_iald (j := i + 3) (pc' := 1075) rfl dL_law_1074 ((pF 0 (by omega) (by omega) (by omega)).trans hs) rfl (by omega) (by omega) ?_
  have hQ2 := hQ.fr (fun i a b => pF i (by omega) (by omega) (by omega))
  obtain ⟨ρ, τ, hM, hA⟩ := id hQ2
  refine sw_V (M' := MX5_swap) (d' := d - 1) (bc' := 1) (bs' := 12) (ci := 6) (as := [_, _, _]) dL_law_1075 w_1286 ok_X5_swap (q_swap hQ2 (hV.iv hN) (by omega) (by omega) (Nat.le_refl _) (Nat.le_refl _)) hM.ob rfl (by omega) (Nat.le_of_ble_eq_true rfl) (by omega) (by omega) (fun E h' n' _ z => pmc_x z) (pmc_k ox_swap (fun u un ub uk uv uR uF => ?_))
  refine sw_istore (pc' := 1080) (lv' := [(6, _), (5, _), (4, _), (3, _), (2, _), (1, _), (0, _)]) rfl dL_law_1078 (by decide +kernel) rfl ?_
  refine sw_aload_n (pc' := 1081) rfl dL_law_1080 rfl ?_
  obtain ⟨uρ, uτ, uM, uA⟩ := id uR
  refine sw_V (M' := MX5_thrown) (d' := d - 1) (bc' := 0) (bs' := 0) (ci := 6) (as := []) dL_law_1081 w_1157 ok_X5_thrown (q_thrown uM) uM.ob rfl (by omega) (Nat.le_of_ble_eq_true rfl) (Nat.zero_le _) (Nat.zero_le _) (fun E h' n' _ z => det_x z) (det_k ?_)
  refine sw_iload (pc' := 1086) rfl dL_law_1084 rfl ?_
  refine sw_icmp_eq (pc' := 1089) (tgt := 1091) rfl dL_law_1086 (by decide +kernel) (fun c1086 => ?_) (fun c1086 => ?_)
  · refine sw_iload (pc' := 1093) rfl dL_law_1091 rfl ?_
    refine sw_if_ne (pc' := 1096) (tgt := 1109) rfl dL_law_1093 (by decide +kernel) (fun c1093 => ?_) (fun c1093 => ?_)
    · refine sw_goto (tgt := 3123) dL_law_1109 (by decide +kernel) ?_
      have J : LI L xs u un (opSwap σ (xs (i + 1)) (xs (i + 2)) (xs (i + 3))).2 (N + 12) := ⟨pR.frT (fun i hi => uF i (by omega) (by omega)), ⟨_, uR⟩, hT.fr (fun i hi => (uF i (by omega) (by omega)).trans (pF i (by omega) (by omega) (by omega))), iv_swap hV, ⟨_, _, (uF 158 (by omega) (by omega)).trans pO⟩, (uF 0 (by omega) (by omega)).trans ((pF 0 (by omega) (by omega) (by omega)).trans hs), by omega⟩
      exact SW.pick [2, 3, 4, 5, 6] rfl ((K u un _ (by omega) J).bud (by omega) (by omega))
    · refine sw_aload_n (pc' := 1097) rfl dL_law_1096 rfl ?_
      refine sw_getN (ci := 5) (k := 0) (pc' := 1100) rfl dL_law_1097 (by decide +kernel) v_347 ((uF 158 (by omega) (by omega)).trans pO) (by show 100 ≤ _; omega) rfl ?_
      refine sw_iload (pc' := 1102) rfl dL_law_1100 rfl ?_
      refine sw_i2l (pc' := 1103) rfl dL_law_1102 ?_
      refine sw_lcmp (pc' := 1104) rfl dL_law_1103 ?_
      refine sw_if_eq (pc' := 1107) (tgt := 1109) rfl dL_law_1104 (by decide +kernel) (fun c1104 => ?_) (fun c1104 => ?_)
      · refine sw_goto (tgt := 3123) dL_law_1109 (by decide +kernel) ?_
        have J : LI L xs u un (opSwap σ (xs (i + 1)) (xs (i + 2)) (xs (i + 3))).2 (N + 12) := ⟨pR.frT (fun i hi => uF i (by omega) (by omega)), ⟨_, uR⟩, hT.fr (fun i hi => (uF i (by omega) (by omega)).trans (pF i (by omega) (by omega) (by omega))), iv_swap hV, ⟨_, _, (uF 158 (by omega) (by omega)).trans pO⟩, (uF 0 (by omega) (by omega)).trans ((pF 0 (by omega) (by omega) (by omega)).trans hs), by omega⟩
        exact SW.pick [2, 3, 4, 5, 6] rfl ((K u un _ (by omega) J).bud (by omega) (by omega))
      · obtain ⟨v9, e9⟩ := ox_0 ox_swap c1093
        exact absurd (by rw [pv v9 e9, uv v9 e9]; exact lg_self _) c1104
  · exact absurd rfl c1086
theorem lc_12 {L : Nat} {xs : Nat → Int32} {h : AH} {n i N d bc bs : Nat} {σ : CS} {Post : ARes → AH → Nat → Prop} (hI : LI L xs h n σ N) (hN : N < 2 ^ 31) (hL : L ≤ 3072) (hi : i + 6 ≤ L) (hd : 20 ≤ d) (h1 : 380 ≤ bc) (h2 : 4500 ≤ bs) (K : ∀ (h' : AH) (n' : Nat) (σ' : CS), n ≤ n' → LI L xs h' n' σ' (N + 12) → SW SR0 ML_law d (bc - 380) (bs - 4500) 3123 [(4, .int (nI i)), (3, .ref 158), (2, .ref 135), (1, .ref 100), (0, .ref 0)] [] h' n' Post) : SW SR0 ML_law d bc bs 1112 [(4, .int (nI i)), (3, .ref 158), (2, .ref 135), (1, .ref 100), (0, .ref 0)] [] h n Post := by
  obtain ⟨hR, ⟨th, hQ⟩, hT, hV, ⟨w, s, hO⟩, hs, hn⟩ := hI
  refine sw_aload_n (pc' := 1113) rfl dL_law_1112 rfl ?_
  refine sw_aload_n (pc' := 1114) rfl dL_law_1113 rfl ?_
  refine sw_iload (pc' := 1116) rfl dL_law_1114 rfl ?_
  refine sw_iconst (pc' := 1117) (v := 1) rfl dL_law_1116 (by decide +kernel) ?_
  refine sw_iadd (pc' := 1118) rfl dL_law_1117 ?_
  rw [show (nI i) + 1 = nI (i + 1) from nI_add _ _]
  refine sw_iald (j := i + 1) (pc' := 1119) rfl dL_law_1118 hs rfl (by omega) (by omega) ?_
  refine sw_aload_n (pc' := 1120) rfl dL_law_1119 rfl ?_
  refine sw_iload (pc' := 1122) rfl dL_law_1120 rfl ?_
  refine sw_iconst (pc' := 1123) (v := 2) rfl dL_law_1122 (by decide +kernel) ?_
  refine sw_iadd (pc' := 1124) rfl dL_law_1123 ?_
  rw [show (nI i) + 2 = nI (i + 2) from nI_add _ _]
  refine sw_iald (j := i + 2) (pc' := 1125) rfl dL_law_1124 hs rfl (by omega) (by omega) ?_
  refine sw_aload_n (pc' := 1126) rfl dL_law_1125 rfl ?_
  refine sw_S (M' := ML_fill) (d' := d - 1) (bc' := 60) (bs' := 400) (as := [_, _, _, _]) dL_law_1126 w_599 ok_L_fill (L_fill hR hT hV hN hO hn (by omega) (Nat.le_refl _) (Nat.le_refl _)) (by omega) (Nat.le_of_ble_eq_true rfl) (by omega) (by omega) (fun E h' n' _ z => lpo_x z) (lpo_k (fun p pn pw ps pk pR pO pv pF => ?_))
  refine sw_istore (pc' := 1131) (lv' := [(5, _), (4, _), (3, _), (2, _), (1, _), (0, _)]) rfl dL_law_1129 (by decide +kernel) rfl ?_
  refine sw_aload_n (pc' := 1132) rfl dL_law_1131 rfl ?_
  refine sw_aload_n (pc' := 1133) rfl dL_law_1132 rfl ?_
  refine sw_iload (pc' := 1135) rfl dL_law_1133 rfl ?_
  refine sw_iconst (pc' := 1136) (v := 1) rfl dL_law_1135 (by decide +kernel) ?_
  refine sw_iadd (pc' := 1137) rfl dL_law_1136 ?_
  rw [show (nI i) + 1 = nI (i + 1) from nI_add _ _]
  refine sw_iald (j := i + 1) (pc' := 1138) rfl dL_law_1137 ((pF 0 (by omega) (by omega) (by omega)).trans hs) rfl (by omega) (by omega) ?_
  refine sw_aload_n (pc' := 1139) rfl dL_law_1138 rfl ?_
  refine sw_iload (pc' := 1141) rfl dL_law_1139 rfl ?_
  refine sw_iconst (pc' := 1142) (v := 2) rfl dL_law_1141 (by decide +kernel) ?_
  refine sw_iadd (pc' := 1143) rfl dL_law_1142 ?_
  rw [show (nI i) + 2 = nI (i + 2) from nI_add _ _]
  refine sw_iald (j := i + 2) (pc' := 1144) rfl dL_law_1143 ((pF 0 (by omega) (by omega) (by omega)).trans hs) rfl (by omega) (by omega) ?_
  have hQ2 := hQ.fr (fun i a b => pF i (by omega) (by omega) (by omega))
  obtain ⟨ρ, τ, hM, hA⟩ := id hQ2
  refine sw_V (M' := MX5_fill) (d' := d - 1) (bc' := 1) (bs' := 12) (ci := 6) (as := [_, _]) dL_law_1144 w_1290 ok_X5_fill (q_fill hQ2 (hV.iv hN) (by omega) (by omega) (Nat.le_refl _) (Nat.le_refl _)) hM.ob rfl (by omega) (Nat.le_of_ble_eq_true rfl) (by omega) (by omega) (fun E h' n' _ z => pmc_x z) (pmc_k ox_fill (fun u un ub uk uv uR uF => ?_))
  refine sw_istore (pc' := 1149) (lv' := [(6, _), (5, _), (4, _), (3, _), (2, _), (1, _), (0, _)]) rfl dL_law_1147 (by decide +kernel) rfl ?_
  refine sw_aload_n (pc' := 1150) rfl dL_law_1149 rfl ?_
  obtain ⟨uρ, uτ, uM, uA⟩ := id uR
  refine sw_V (M' := MX5_thrown) (d' := d - 1) (bc' := 0) (bs' := 0) (ci := 6) (as := []) dL_law_1150 w_1157 ok_X5_thrown (q_thrown uM) uM.ob rfl (by omega) (Nat.le_of_ble_eq_true rfl) (Nat.zero_le _) (Nat.zero_le _) (fun E h' n' _ z => det_x z) (det_k ?_)
  refine sw_iload (pc' := 1155) rfl dL_law_1153 rfl ?_
  refine sw_icmp_eq (pc' := 1158) (tgt := 1160) rfl dL_law_1155 (by decide +kernel) (fun c1155 => ?_) (fun c1155 => ?_)
  · refine sw_iload (pc' := 1162) rfl dL_law_1160 rfl ?_
    refine sw_if_ne (pc' := 1165) (tgt := 1178) rfl dL_law_1162 (by decide +kernel) (fun c1162 => ?_) (fun c1162 => ?_)
    · refine sw_goto (tgt := 3123) dL_law_1178 (by decide +kernel) ?_
      have J : LI L xs u un (opFill σ (xs (i + 1)) (xs (i + 2))).2 (N + 12) := ⟨pR.frT (fun i hi => uF i (by omega) (by omega)), ⟨_, uR⟩, hT.fr (fun i hi => (uF i (by omega) (by omega)).trans (pF i (by omega) (by omega) (by omega))), iv_fill hV, ⟨_, _, (uF 158 (by omega) (by omega)).trans pO⟩, (uF 0 (by omega) (by omega)).trans ((pF 0 (by omega) (by omega) (by omega)).trans hs), by omega⟩
      exact SW.pick [2, 3, 4, 5, 6] rfl ((K u un _ (by omega) J).bud (by omega) (by omega))
    · refine sw_aload_n (pc' := 1166) rfl dL_law_1165 rfl ?_
      refine sw_getN (ci := 5) (k := 0) (pc' := 1169) rfl dL_law_1166 (by decide +kernel) v_347 ((uF 158 (by omega) (by omega)).trans pO) (by show 100 ≤ _; omega) rfl ?_
      refine sw_iload (pc' := 1171) rfl dL_law_1169 rfl ?_
      refine sw_i2l (pc' := 1172) rfl dL_law_1171 ?_
      refine sw_lcmp (pc' := 1173) rfl dL_law_1172 ?_
      refine sw_if_eq (pc' := 1176) (tgt := 1178) rfl dL_law_1173 (by decide +kernel) (fun c1173 => ?_) (fun c1173 => ?_)
      · refine sw_goto (tgt := 3123) dL_law_1178 (by decide +kernel) ?_
        have J : LI L xs u un (opFill σ (xs (i + 1)) (xs (i + 2))).2 (N + 12) := ⟨pR.frT (fun i hi => uF i (by omega) (by omega)), ⟨_, uR⟩, hT.fr (fun i hi => (uF i (by omega) (by omega)).trans (pF i (by omega) (by omega) (by omega))), iv_fill hV, ⟨_, _, (uF 158 (by omega) (by omega)).trans pO⟩, (uF 0 (by omega) (by omega)).trans ((pF 0 (by omega) (by omega) (by omega)).trans hs), by omega⟩
        exact SW.pick [2, 3, 4, 5, 6] rfl ((K u un _ (by omega) J).bud (by omega) (by omega))
      · obtain ⟨v9, e9⟩ := ox_0 ox_fill c1162
        exact absurd (by rw [pv v9 e9, uv v9 e9]; exact lg_self _) c1173
  · exact absurd rfl c1155
theorem lc_13 {L : Nat} {xs : Nat → Int32} {h : AH} {n i N d bc bs : Nat} {σ : CS} {Post : ARes → AH → Nat → Prop} (hI : LI L xs h n σ N) (hN : N < 2 ^ 31) (hL : L ≤ 3072) (hi : i + 6 ≤ L) (hd : 20 ≤ d) (h1 : 380 ≤ bc) (h2 : 4500 ≤ bs) (K : ∀ (h' : AH) (n' : Nat) (σ' : CS), n ≤ n' → LI L xs h' n' σ' (N + 12) → SW SR0 ML_law d (bc - 380) (bs - 4500) 3123 [(4, .int (nI i)), (3, .ref 158), (2, .ref 135), (1, .ref 100), (0, .ref 0)] [] h' n' Post) : SW SR0 ML_law d bc bs 1181 [(4, .int (nI i)), (3, .ref 158), (2, .ref 135), (1, .ref 100), (0, .ref 0)] [] h n Post := by
  obtain ⟨hR, ⟨th, hQ⟩, hT, hV, ⟨w, s, hO⟩, hs, hn⟩ := hI
  refine sw_aload_n (pc' := 1182) rfl dL_law_1181 rfl ?_
  refine sw_aload_n (pc' := 1183) rfl dL_law_1182 rfl ?_
  refine sw_iload (pc' := 1185) rfl dL_law_1183 rfl ?_
  refine sw_iconst (pc' := 1186) (v := 1) rfl dL_law_1185 (by decide +kernel) ?_
  refine sw_iadd (pc' := 1187) rfl dL_law_1186 ?_
  rw [show (nI i) + 1 = nI (i + 1) from nI_add _ _]
  refine sw_iald (j := i + 1) (pc' := 1188) rfl dL_law_1187 hs rfl (by omega) (by omega) ?_
  refine sw_aload_n (pc' := 1189) rfl dL_law_1188 rfl ?_
  refine sw_iload (pc' := 1191) rfl dL_law_1189 rfl ?_
  refine sw_iconst (pc' := 1192) (v := 2) rfl dL_law_1191 (by decide +kernel) ?_
  refine sw_iadd (pc' := 1193) rfl dL_law_1192 ?_
  rw [show (nI i) + 2 = nI (i + 2) from nI_add _ _]
  refine sw_iald (j := i + 2) (pc' := 1194) rfl dL_law_1193 hs rfl (by omega) (by omega) ?_
  refine sw_aload_n (pc' := 1195) rfl dL_law_1194 rfl ?_
  refine sw_iload (pc' := 1197) rfl dL_law_1195 rfl ?_
  refine sw_iconst (pc' := 1198) (v := 3) rfl dL_law_1197 (by decide +kernel) ?_
  refine sw_iadd (pc' := 1199) rfl dL_law_1198 ?_
  rw [show (nI i) + 3 = nI (i + 3) from nI_add _ _]
  refine sw_iald (j := i + 3) (pc' := 1200) rfl dL_law_1199 hs rfl (by omega) (by omega) ?_
  refine sw_aload_n (pc' := 1201) rfl dL_law_1200 rfl ?_
  refine sw_S (M' := ML_replace) (d' := d - 1) (bc' := 60) (bs' := 400) (as := [_, _, _, _, _]) dL_law_1201 w_606 ok_L_replace (L_replace hR hT hV hN hO hn (by omega) (Nat.le_refl _) (Nat.le_refl _)) (by omega) (Nat.le_of_ble_eq_true rfl) (by omega) (by omega) (fun E h' n' _ z => lpo_x z) (lpo_k (fun p pn pw ps pk pR pO pv pF => ?_))
  refine sw_istore (pc' := 1206) (lv' := [(5, _), (4, _), (3, _), (2, _), (1, _), (0, _)]) rfl dL_law_1204 (by decide +kernel) rfl ?_
  refine sw_aload_n (pc' := 1207) rfl dL_law_1206 rfl ?_
  refine sw_aload_n (pc' := 1208) rfl dL_law_1207 rfl ?_
  refine sw_iload (pc' := 1210) rfl dL_law_1208 rfl ?_
  refine sw_iconst (pc' := 1211) (v := 1) rfl dL_law_1210 (by decide +kernel) ?_
  refine sw_iadd (pc' := 1212) rfl dL_law_1211 ?_
  rw [show (nI i) + 1 = nI (i + 1) from nI_add _ _]
  refine sw_iald (j := i + 1) (pc' := 1213) rfl dL_law_1212 ((pF 0 (by omega) (by omega) (by omega)).trans hs) rfl (by omega) (by omega) ?_
  refine sw_aload_n (pc' := 1214) rfl dL_law_1213 rfl ?_
  refine sw_iload (pc' := 1216) rfl dL_law_1214 rfl ?_
  refine sw_iconst (pc' := 1217) (v := 2) rfl dL_law_1216 (by decide +kernel) ?_
  refine sw_iadd (pc' := 1218) rfl dL_law_1217 ?_
  rw [show (nI i) + 2 = nI (i + 2) from nI_add _ _]
  refine sw_iald (j := i + 2) (pc' := 1219) rfl dL_law_1218 ((pF 0 (by omega) (by omega) (by omega)).trans hs) rfl (by omega) (by omega) ?_
  refine sw_aload_n (pc' := 1220) rfl dL_law_1219 rfl ?_
  refine sw_iload (pc' := 1222) rfl dL_law_1220 rfl ?_
  refine sw_iconst (pc' := 1223) (v := 3) rfl dL_law_1222 (by decide +kernel) ?_
  refine sw_iadd (pc' := 1224) rfl dL_law_1223 ?_
  rw [show (nI i) + 3 = nI (i + 3) from nI_add _ _]
  refine sw_iald (j := i + 3) (pc' := 1225) rfl dL_law_1224 ((pF 0 (by omega) (by omega) (by omega)).trans hs) rfl (by omega) (by omega) ?_
  have hQ2 := hQ.fr (fun i a b => pF i (by omega) (by omega) (by omega))
  obtain ⟨ρ, τ, hM, hA⟩ := id hQ2
  refine sw_V (M' := MX5_replace) (d' := d - 1) (bc' := 1) (bs' := 12) (ci := 6) (as := [_, _, _]) dL_law_1225 w_1294 ok_X5_replace (q_replace hQ2 (hV.iv hN) (by omega) (by omega) (Nat.le_refl _) (Nat.le_refl _)) hM.ob rfl (by omega) (Nat.le_of_ble_eq_true rfl) (by omega) (by omega) (fun E h' n' _ z => pmc_x z) (pmc_k ox_replace (fun u un ub uk uv uR uF => ?_))
  refine sw_istore (pc' := 1230) (lv' := [(6, _), (5, _), (4, _), (3, _), (2, _), (1, _), (0, _)]) rfl dL_law_1228 (by decide +kernel) rfl ?_
  refine sw_aload_n (pc' := 1231) rfl dL_law_1230 rfl ?_
  obtain ⟨uρ, uτ, uM, uA⟩ := id uR
  refine sw_V (M' := MX5_thrown) (d' := d - 1) (bc' := 0) (bs' := 0) (ci := 6) (as := []) dL_law_1231 w_1157 ok_X5_thrown (q_thrown uM) uM.ob rfl (by omega) (Nat.le_of_ble_eq_true rfl) (Nat.zero_le _) (Nat.zero_le _) (fun E h' n' _ z => det_x z) (det_k ?_)
  refine sw_iload (pc' := 1236) rfl dL_law_1234 rfl ?_
  refine sw_icmp_eq (pc' := 1239) (tgt := 1241) rfl dL_law_1236 (by decide +kernel) (fun c1236 => ?_) (fun c1236 => ?_)
  · refine sw_iload (pc' := 1243) rfl dL_law_1241 rfl ?_
    refine sw_if_ne (pc' := 1246) (tgt := 1259) rfl dL_law_1243 (by decide +kernel) (fun c1243 => ?_) (fun c1243 => ?_)
    · refine sw_goto (tgt := 3123) dL_law_1259 (by decide +kernel) ?_
      have J : LI L xs u un (opReplace σ (xs (i + 1)) (xs (i + 2)) (xs (i + 3))).2 (N + 12) := ⟨pR.frT (fun i hi => uF i (by omega) (by omega)), ⟨_, uR⟩, hT.fr (fun i hi => (uF i (by omega) (by omega)).trans (pF i (by omega) (by omega) (by omega))), iv_replace hV, ⟨_, _, (uF 158 (by omega) (by omega)).trans pO⟩, (uF 0 (by omega) (by omega)).trans ((pF 0 (by omega) (by omega) (by omega)).trans hs), by omega⟩
      exact SW.pick [2, 3, 4, 5, 6] rfl ((K u un _ (by omega) J).bud (by omega) (by omega))
    · refine sw_aload_n (pc' := 1247) rfl dL_law_1246 rfl ?_
      refine sw_getN (ci := 5) (k := 0) (pc' := 1250) rfl dL_law_1247 (by decide +kernel) v_347 ((uF 158 (by omega) (by omega)).trans pO) (by show 100 ≤ _; omega) rfl ?_
      refine sw_iload (pc' := 1252) rfl dL_law_1250 rfl ?_
      refine sw_i2l (pc' := 1253) rfl dL_law_1252 ?_
      refine sw_lcmp (pc' := 1254) rfl dL_law_1253 ?_
      refine sw_if_eq (pc' := 1257) (tgt := 1259) rfl dL_law_1254 (by decide +kernel) (fun c1254 => ?_) (fun c1254 => ?_)
      · refine sw_goto (tgt := 3123) dL_law_1259 (by decide +kernel) ?_
        have J : LI L xs u un (opReplace σ (xs (i + 1)) (xs (i + 2)) (xs (i + 3))).2 (N + 12) := ⟨pR.frT (fun i hi => uF i (by omega) (by omega)), ⟨_, uR⟩, hT.fr (fun i hi => (uF i (by omega) (by omega)).trans (pF i (by omega) (by omega) (by omega))), iv_replace hV, ⟨_, _, (uF 158 (by omega) (by omega)).trans pO⟩, (uF 0 (by omega) (by omega)).trans ((pF 0 (by omega) (by omega) (by omega)).trans hs), by omega⟩
        exact SW.pick [2, 3, 4, 5, 6] rfl ((K u un _ (by omega) J).bud (by omega) (by omega))
      · obtain ⟨v9, e9⟩ := ox_0 ox_replace c1243
        exact absurd (by rw [pv v9 e9, uv v9 e9]; exact lg_self _) c1254
  · exact absurd rfl c1236
theorem lc_14 {L : Nat} {xs : Nat → Int32} {h : AH} {n i N d bc bs : Nat} {σ : CS} {Post : ARes → AH → Nat → Prop} (hI : LI L xs h n σ N) (hN : N < 2 ^ 31) (hL : L ≤ 3072) (hi : i + 6 ≤ L) (hd : 20 ≤ d) (h1 : 380 ≤ bc) (h2 : 4500 ≤ bs) (K : ∀ (h' : AH) (n' : Nat) (σ' : CS), n ≤ n' → LI L xs h' n' σ' (N + 12) → SW SR0 ML_law d (bc - 380) (bs - 4500) 3123 [(4, .int (nI i)), (3, .ref 158), (2, .ref 135), (1, .ref 100), (0, .ref 0)] [] h' n' Post) : SW SR0 ML_law d bc bs 1262 [(4, .int (nI i)), (3, .ref 158), (2, .ref 135), (1, .ref 100), (0, .ref 0)] [] h n Post := by
  obtain ⟨hR, ⟨th, hQ⟩, hT, hV, ⟨w, s, hO⟩, hs, hn⟩ := hI
  refine sw_aload_n (pc' := 1263) rfl dL_law_1262 rfl ?_
  refine sw_aload_n (pc' := 1264) rfl dL_law_1263 rfl ?_
  refine sw_iload (pc' := 1266) rfl dL_law_1264 rfl ?_
  refine sw_iconst (pc' := 1267) (v := 1) rfl dL_law_1266 (by decide +kernel) ?_
  refine sw_iadd (pc' := 1268) rfl dL_law_1267 ?_
  rw [show (nI i) + 1 = nI (i + 1) from nI_add _ _]
  refine sw_iald (j := i + 1) (pc' := 1269) rfl dL_law_1268 hs rfl (by omega) (by omega) ?_
  refine sw_aload_n (pc' := 1270) rfl dL_law_1269 rfl ?_
  refine sw_iload (pc' := 1272) rfl dL_law_1270 rfl ?_
  refine sw_iconst (pc' := 1273) (v := 2) rfl dL_law_1272 (by decide +kernel) ?_
  refine sw_iadd (pc' := 1274) rfl dL_law_1273 ?_
  rw [show (nI i) + 2 = nI (i + 2) from nI_add _ _]
  refine sw_iald (j := i + 2) (pc' := 1275) rfl dL_law_1274 hs rfl (by omega) (by omega) ?_
  refine sw_aload_n (pc' := 1276) rfl dL_law_1275 rfl ?_
  refine sw_iload (pc' := 1278) rfl dL_law_1276 rfl ?_
  refine sw_iconst (pc' := 1279) (v := 3) rfl dL_law_1278 (by decide +kernel) ?_
  refine sw_iadd (pc' := 1280) rfl dL_law_1279 ?_
  rw [show (nI i) + 3 = nI (i + 3) from nI_add _ _]
  refine sw_iald (j := i + 3) (pc' := 1281) rfl dL_law_1280 hs rfl (by omega) (by omega) ?_
  refine sw_aload_n (pc' := 1282) rfl dL_law_1281 rfl ?_
  refine sw_S (M' := ML_copies) (d' := d - 1) (bc' := 60) (bs' := 400) (as := [_, _, _, _, _]) dL_law_1282 w_613 ok_L_copies (L_copies hR hT hV hN hO hn (by omega) (Nat.le_refl _) (Nat.le_refl _)) (by omega) (Nat.le_of_ble_eq_true rfl) (by omega) (by omega) (fun E h' n' _ z => lpo_x z) (lpo_k (fun p pn pw ps pk pR pO pv pF => ?_))
  refine sw_istore (pc' := 1287) (lv' := [(5, _), (4, _), (3, _), (2, _), (1, _), (0, _)]) rfl dL_law_1285 (by decide +kernel) rfl ?_
  refine sw_aload_n (pc' := 1288) rfl dL_law_1287 rfl ?_
  refine sw_aload_n (pc' := 1289) rfl dL_law_1288 rfl ?_
  refine sw_iload (pc' := 1291) rfl dL_law_1289 rfl ?_
  refine sw_iconst (pc' := 1292) (v := 1) rfl dL_law_1291 (by decide +kernel) ?_
  refine sw_iadd (pc' := 1293) rfl dL_law_1292 ?_
  rw [show (nI i) + 1 = nI (i + 1) from nI_add _ _]
  refine sw_iald (j := i + 1) (pc' := 1294) rfl dL_law_1293 ((pF 0 (by omega) (by omega) (by omega)).trans hs) rfl (by omega) (by omega) ?_
  refine sw_aload_n (pc' := 1295) rfl dL_law_1294 rfl ?_
  refine sw_iload (pc' := 1297) rfl dL_law_1295 rfl ?_
  refine sw_iconst (pc' := 1298) (v := 2) rfl dL_law_1297 (by decide +kernel) ?_
  refine sw_iadd (pc' := 1299) rfl dL_law_1298 ?_
  rw [show (nI i) + 2 = nI (i + 2) from nI_add _ _]
  refine sw_iald (j := i + 2) (pc' := 1300) rfl dL_law_1299 ((pF 0 (by omega) (by omega) (by omega)).trans hs) rfl (by omega) (by omega) ?_
  refine sw_aload_n (pc' := 1301) rfl dL_law_1300 rfl ?_
  refine sw_iload (pc' := 1303) rfl dL_law_1301 rfl ?_
  refine sw_iconst (pc' := 1304) (v := 3) rfl dL_law_1303 (by decide +kernel) ?_
  refine sw_iadd (pc' := 1305) rfl dL_law_1304 ?_
  rw [show (nI i) + 3 = nI (i + 3) from nI_add _ _]
  refine sw_iald (j := i + 3) (pc' := 1306) rfl dL_law_1305 ((pF 0 (by omega) (by omega) (by omega)).trans hs) rfl (by omega) (by omega) ?_
  have hQ2 := hQ.fr (fun i a b => pF i (by omega) (by omega) (by omega))
  obtain ⟨ρ, τ, hM, hA⟩ := id hQ2
  refine sw_V (M' := MX5_copies) (d' := d - 1) (bc' := 1) (bs' := 12) (ci := 6) (as := [_, _, _]) dL_law_1306 w_1298 ok_X5_copies (q_copies hQ2 (hV.iv hN) (by omega) (by omega) (Nat.le_refl _) (Nat.le_refl _)) hM.ob rfl (by omega) (Nat.le_of_ble_eq_true rfl) (by omega) (by omega) (fun E h' n' _ z => pmc_x z) (pmc_k ox_copies (fun u un ub uk uv uR uF => ?_))
  refine sw_istore (pc' := 1311) (lv' := [(6, _), (5, _), (4, _), (3, _), (2, _), (1, _), (0, _)]) rfl dL_law_1309 (by decide +kernel) rfl ?_
  refine sw_aload_n (pc' := 1312) rfl dL_law_1311 rfl ?_
  obtain ⟨uρ, uτ, uM, uA⟩ := id uR
  refine sw_V (M' := MX5_thrown) (d' := d - 1) (bc' := 0) (bs' := 0) (ci := 6) (as := []) dL_law_1312 w_1157 ok_X5_thrown (q_thrown uM) uM.ob rfl (by omega) (Nat.le_of_ble_eq_true rfl) (Nat.zero_le _) (Nat.zero_le _) (fun E h' n' _ z => det_x z) (det_k ?_)
  refine sw_iload (pc' := 1317) rfl dL_law_1315 rfl ?_
  refine sw_icmp_eq (pc' := 1320) (tgt := 1322) rfl dL_law_1317 (by decide +kernel) (fun c1317 => ?_) (fun c1317 => ?_)
  · refine sw_iload (pc' := 1324) rfl dL_law_1322 rfl ?_
    refine sw_if_ne (pc' := 1327) (tgt := 1340) rfl dL_law_1324 (by decide +kernel) (fun c1324 => ?_) (fun c1324 => ?_)
    · refine sw_goto (tgt := 3123) dL_law_1340 (by decide +kernel) ?_
      have J : LI L xs u un (opCopies σ (xs (i + 1)) (xs (i + 2)) (xs (i + 3))).2 (N + 12) := ⟨pR.frT (fun i hi => uF i (by omega) (by omega)), ⟨_, uR⟩, hT.fr (fun i hi => (uF i (by omega) (by omega)).trans (pF i (by omega) (by omega) (by omega))), iv_copies hV, ⟨_, _, (uF 158 (by omega) (by omega)).trans pO⟩, (uF 0 (by omega) (by omega)).trans ((pF 0 (by omega) (by omega) (by omega)).trans hs), by omega⟩
      exact SW.pick [2, 3, 4, 5, 6] rfl ((K u un _ (by omega) J).bud (by omega) (by omega))
    · refine sw_aload_n (pc' := 1328) rfl dL_law_1327 rfl ?_
      refine sw_getN (ci := 5) (k := 0) (pc' := 1331) rfl dL_law_1328 (by decide +kernel) v_347 ((uF 158 (by omega) (by omega)).trans pO) (by show 100 ≤ _; omega) rfl ?_
      refine sw_iload (pc' := 1333) rfl dL_law_1331 rfl ?_
      refine sw_i2l (pc' := 1334) rfl dL_law_1333 ?_
      refine sw_lcmp (pc' := 1335) rfl dL_law_1334 ?_
      refine sw_if_eq (pc' := 1338) (tgt := 1340) rfl dL_law_1335 (by decide +kernel) (fun c1335 => ?_) (fun c1335 => ?_)
      · refine sw_goto (tgt := 3123) dL_law_1340 (by decide +kernel) ?_
        have J : LI L xs u un (opCopies σ (xs (i + 1)) (xs (i + 2)) (xs (i + 3))).2 (N + 12) := ⟨pR.frT (fun i hi => uF i (by omega) (by omega)), ⟨_, uR⟩, hT.fr (fun i hi => (uF i (by omega) (by omega)).trans (pF i (by omega) (by omega) (by omega))), iv_copies hV, ⟨_, _, (uF 158 (by omega) (by omega)).trans pO⟩, (uF 0 (by omega) (by omega)).trans ((pF 0 (by omega) (by omega) (by omega)).trans hs), by omega⟩
        exact SW.pick [2, 3, 4, 5, 6] rfl ((K u un _ (by omega) J).bud (by omega) (by omega))
      · obtain ⟨v9, e9⟩ := ox_0 ox_copies c1324
        exact absurd (by rw [pv v9 e9, uv v9 e9]; exact lg_self _) c1335
  · exact absurd rfl c1317
theorem lc_15 {L : Nat} {xs : Nat → Int32} {h : AH} {n i N d bc bs : Nat} {σ : CS} {Post : ARes → AH → Nat → Prop} (hI : LI L xs h n σ N) (hN : N < 2 ^ 31) (hL : L ≤ 3072) (hi : i + 6 ≤ L) (hd : 20 ≤ d) (h1 : 380 ≤ bc) (h2 : 4500 ≤ bs) (K : ∀ (h' : AH) (n' : Nat) (σ' : CS), n ≤ n' → LI L xs h' n' σ' (N + 12) → SW SR0 ML_law d (bc - 380) (bs - 4500) 3123 [(4, .int (nI i)), (3, .ref 158), (2, .ref 135), (1, .ref 100), (0, .ref 0)] [] h' n' Post) : SW SR0 ML_law d bc bs 1343 [(4, .int (nI i)), (3, .ref 158), (2, .ref 135), (1, .ref 100), (0, .ref 0)] [] h n Post := by
  obtain ⟨hR, ⟨th, hQ⟩, hT, hV, ⟨w, s, hO⟩, hs, hn⟩ := hI
  refine sw_aload_n (pc' := 1344) rfl dL_law_1343 rfl ?_
  refine sw_aload_n (pc' := 1345) rfl dL_law_1344 rfl ?_
  refine sw_iload (pc' := 1347) rfl dL_law_1345 rfl ?_
  refine sw_iconst (pc' := 1348) (v := 1) rfl dL_law_1347 (by decide +kernel) ?_
  refine sw_iadd (pc' := 1349) rfl dL_law_1348 ?_
  rw [show (nI i) + 1 = nI (i + 1) from nI_add _ _]
  refine sw_iald (j := i + 1) (pc' := 1350) rfl dL_law_1349 hs rfl (by omega) (by omega) ?_
  refine sw_aload_n (pc' := 1351) rfl dL_law_1350 rfl ?_
  refine sw_iload (pc' := 1353) rfl dL_law_1351 rfl ?_
  refine sw_iconst (pc' := 1354) (v := 2) rfl dL_law_1353 (by decide +kernel) ?_
  refine sw_iadd (pc' := 1355) rfl dL_law_1354 ?_
  rw [show (nI i) + 2 = nI (i + 2) from nI_add _ _]
  refine sw_iald (j := i + 2) (pc' := 1356) rfl dL_law_1355 hs rfl (by omega) (by omega) ?_
  refine sw_aload_n (pc' := 1357) rfl dL_law_1356 rfl ?_
  refine sw_iload (pc' := 1359) rfl dL_law_1357 rfl ?_
  refine sw_iconst (pc' := 1360) (v := 3) rfl dL_law_1359 (by decide +kernel) ?_
  refine sw_iadd (pc' := 1361) rfl dL_law_1360 ?_
  rw [show (nI i) + 3 = nI (i + 3) from nI_add _ _]
  refine sw_iald (j := i + 3) (pc' := 1362) rfl dL_law_1361 hs rfl (by omega) (by omega) ?_
  refine sw_aload_n (pc' := 1363) rfl dL_law_1362 rfl ?_
  refine sw_S (M' := ML_walk) (d' := d - 1) (bc' := 60) (bs' := 400) (as := [_, _, _, _, _]) dL_law_1363 w_624 ok_L_walk (L_walk hR hT hV hN hO hn (by omega) (Nat.le_refl _) (Nat.le_refl _)) (by omega) (Nat.le_of_ble_eq_true rfl) (by omega) (by omega) (fun E h' n' _ z => lpo_x z) (lpo_k (fun p pn pw ps pk pR pO pv pF => ?_))
  refine sw_istore (pc' := 1368) (lv' := [(5, _), (4, _), (3, _), (2, _), (1, _), (0, _)]) rfl dL_law_1366 (by decide +kernel) rfl ?_
  refine sw_aload_n (pc' := 1369) rfl dL_law_1368 rfl ?_
  refine sw_aload_n (pc' := 1370) rfl dL_law_1369 rfl ?_
  refine sw_iload (pc' := 1372) rfl dL_law_1370 rfl ?_
  refine sw_iconst (pc' := 1373) (v := 1) rfl dL_law_1372 (by decide +kernel) ?_
  refine sw_iadd (pc' := 1374) rfl dL_law_1373 ?_
  rw [show (nI i) + 1 = nI (i + 1) from nI_add _ _]
  refine sw_iald (j := i + 1) (pc' := 1375) rfl dL_law_1374 ((pF 0 (by omega) (by omega) (by omega)).trans hs) rfl (by omega) (by omega) ?_
  refine sw_aload_n (pc' := 1376) rfl dL_law_1375 rfl ?_
  refine sw_iload (pc' := 1378) rfl dL_law_1376 rfl ?_
  refine sw_iconst (pc' := 1379) (v := 2) rfl dL_law_1378 (by decide +kernel) ?_
  refine sw_iadd (pc' := 1380) rfl dL_law_1379 ?_
  rw [show (nI i) + 2 = nI (i + 2) from nI_add _ _]
  refine sw_iald (j := i + 2) (pc' := 1381) rfl dL_law_1380 ((pF 0 (by omega) (by omega) (by omega)).trans hs) rfl (by omega) (by omega) ?_
  refine sw_aload_n (pc' := 1382) rfl dL_law_1381 rfl ?_
  refine sw_iload (pc' := 1384) rfl dL_law_1382 rfl ?_
  refine sw_iconst (pc' := 1385) (v := 3) rfl dL_law_1384 (by decide +kernel) ?_
  refine sw_iadd (pc' := 1386) rfl dL_law_1385 ?_
  rw [show (nI i) + 3 = nI (i + 3) from nI_add _ _]
  refine sw_iald (j := i + 3) (pc' := 1387) rfl dL_law_1386 ((pF 0 (by omega) (by omega) (by omega)).trans hs) rfl (by omega) (by omega) ?_
  have hQ2 := hQ.fr (fun i a b => pF i (by omega) (by omega) (by omega))
  obtain ⟨ρ, τ, hM, hA⟩ := id hQ2
  refine sw_V (M' := MX5_walk) (d' := d - 1) (bc' := 1) (bs' := 12) (ci := 6) (as := [_, _, _]) dL_law_1387 w_1302 ok_X5_walk (q_walk hQ2 (hV.iv hN) (by omega) (by omega) (Nat.le_refl _) (Nat.le_refl _)) hM.ob rfl (by omega) (Nat.le_of_ble_eq_true rfl) (by omega) (by omega) (fun E h' n' _ z => pmc_x z) (pmc_k ox_walk (fun u un ub uk uv uR uF => ?_))
  refine sw_istore (pc' := 1392) (lv' := [(6, _), (5, _), (4, _), (3, _), (2, _), (1, _), (0, _)]) rfl dL_law_1390 (by decide +kernel) rfl ?_
  refine sw_aload_n (pc' := 1393) rfl dL_law_1392 rfl ?_
  obtain ⟨uρ, uτ, uM, uA⟩ := id uR
  refine sw_V (M' := MX5_thrown) (d' := d - 1) (bc' := 0) (bs' := 0) (ci := 6) (as := []) dL_law_1393 w_1157 ok_X5_thrown (q_thrown uM) uM.ob rfl (by omega) (Nat.le_of_ble_eq_true rfl) (Nat.zero_le _) (Nat.zero_le _) (fun E h' n' _ z => det_x z) (det_k ?_)
  refine sw_iload (pc' := 1398) rfl dL_law_1396 rfl ?_
  refine sw_icmp_eq (pc' := 1401) (tgt := 1403) rfl dL_law_1398 (by decide +kernel) (fun c1398 => ?_) (fun c1398 => ?_)
  · refine sw_iload (pc' := 1405) rfl dL_law_1403 rfl ?_
    refine sw_if_ne (pc' := 1408) (tgt := 1421) rfl dL_law_1405 (by decide +kernel) (fun c1405 => ?_) (fun c1405 => ?_)
    · refine sw_goto (tgt := 3123) dL_law_1421 (by decide +kernel) ?_
      have J : LI L xs u un (opWalk σ (xs (i + 1)) (xs (i + 2)) (xs (i + 3))).2 (N + 12) := ⟨pR.frT (fun i hi => uF i (by omega) (by omega)), ⟨_, uR⟩, hT.fr (fun i hi => (uF i (by omega) (by omega)).trans (pF i (by omega) (by omega) (by omega))), iv_walk hV, ⟨_, _, (uF 158 (by omega) (by omega)).trans pO⟩, (uF 0 (by omega) (by omega)).trans ((pF 0 (by omega) (by omega) (by omega)).trans hs), by omega⟩
      exact SW.pick [2, 3, 4, 5, 6] rfl ((K u un _ (by omega) J).bud (by omega) (by omega))
    · refine sw_aload_n (pc' := 1409) rfl dL_law_1408 rfl ?_
      refine sw_getN (ci := 5) (k := 0) (pc' := 1412) rfl dL_law_1409 (by decide +kernel) v_347 ((uF 158 (by omega) (by omega)).trans pO) (by show 100 ≤ _; omega) rfl ?_
      refine sw_iload (pc' := 1414) rfl dL_law_1412 rfl ?_
      refine sw_i2l (pc' := 1415) rfl dL_law_1414 ?_
      refine sw_lcmp (pc' := 1416) rfl dL_law_1415 ?_
      refine sw_if_eq (pc' := 1419) (tgt := 1421) rfl dL_law_1416 (by decide +kernel) (fun c1416 => ?_) (fun c1416 => ?_)
      · refine sw_goto (tgt := 3123) dL_law_1421 (by decide +kernel) ?_
        have J : LI L xs u un (opWalk σ (xs (i + 1)) (xs (i + 2)) (xs (i + 3))).2 (N + 12) := ⟨pR.frT (fun i hi => uF i (by omega) (by omega)), ⟨_, uR⟩, hT.fr (fun i hi => (uF i (by omega) (by omega)).trans (pF i (by omega) (by omega) (by omega))), iv_walk hV, ⟨_, _, (uF 158 (by omega) (by omega)).trans pO⟩, (uF 0 (by omega) (by omega)).trans ((pF 0 (by omega) (by omega) (by omega)).trans hs), by omega⟩
        exact SW.pick [2, 3, 4, 5, 6] rfl ((K u un _ (by omega) J).bud (by omega) (by omega))
      · obtain ⟨v9, e9⟩ := ox_0 ox_walk c1405
        exact absurd (by rw [pv v9 e9, uv v9 e9]; exact lg_self _) c1416
  · exact absurd rfl c1398
theorem lc_16 {L : Nat} {xs : Nat → Int32} {h : AH} {n i N d bc bs : Nat} {σ : CS} {Post : ARes → AH → Nat → Prop} (hI : LI L xs h n σ N) (hN : N < 2 ^ 31) (hL : L ≤ 3072) (hi : i + 6 ≤ L) (hd : 20 ≤ d) (h1 : 380 ≤ bc) (h2 : 4500 ≤ bs) (K : ∀ (h' : AH) (n' : Nat) (σ' : CS), n ≤ n' → LI L xs h' n' σ' (N + 12) → SW SR0 ML_law d (bc - 380) (bs - 4500) 3123 [(4, .int (nI i)), (3, .ref 158), (2, .ref 135), (1, .ref 100), (0, .ref 0)] [] h' n' Post) : SW SR0 ML_law d bc bs 1424 [(4, .int (nI i)), (3, .ref 158), (2, .ref 135), (1, .ref 100), (0, .ref 0)] [] h n Post := by
  obtain ⟨hR, ⟨th, hQ⟩, hT, hV, ⟨w, s, hO⟩, hs, hn⟩ := hI
  refine sw_aload_n (pc' := 1425) rfl dL_law_1424 rfl ?_
  refine sw_aload_n (pc' := 1426) rfl dL_law_1425 rfl ?_
  refine sw_iload (pc' := 1428) rfl dL_law_1426 rfl ?_
  refine sw_iconst (pc' := 1429) (v := 1) rfl dL_law_1428 (by decide +kernel) ?_
  refine sw_iadd (pc' := 1430) rfl dL_law_1429 ?_
  rw [show (nI i) + 1 = nI (i + 1) from nI_add _ _]
  refine sw_iald (j := i + 1) (pc' := 1431) rfl dL_law_1430 hs rfl (by omega) (by omega) ?_
  refine sw_aload_n (pc' := 1432) rfl dL_law_1431 rfl ?_
  refine sw_S (M' := ML_next) (d' := d - 1) (bc' := 60) (bs' := 400) (as := [_, _, _]) dL_law_1432 w_633 ok_L_next (L_next hR hT hV hN hO hn (by omega) (Nat.le_refl _) (Nat.le_refl _)) (by omega) (Nat.le_of_ble_eq_true rfl) (by omega) (by omega) (fun E h' n' _ z => lpo_x z) (lpo_k (fun p pn pw ps pk pR pO pv pF => ?_))
  refine sw_istore (pc' := 1437) (lv' := [(5, _), (4, _), (3, _), (2, _), (1, _), (0, _)]) rfl dL_law_1435 (by decide +kernel) rfl ?_
  refine sw_aload_n (pc' := 1438) rfl dL_law_1437 rfl ?_
  refine sw_aload_n (pc' := 1439) rfl dL_law_1438 rfl ?_
  refine sw_iload (pc' := 1441) rfl dL_law_1439 rfl ?_
  refine sw_iconst (pc' := 1442) (v := 1) rfl dL_law_1441 (by decide +kernel) ?_
  refine sw_iadd (pc' := 1443) rfl dL_law_1442 ?_
  rw [show (nI i) + 1 = nI (i + 1) from nI_add _ _]
  refine sw_iald (j := i + 1) (pc' := 1444) rfl dL_law_1443 ((pF 0 (by omega) (by omega) (by omega)).trans hs) rfl (by omega) (by omega) ?_
  have hQ2 := hQ.fr (fun i a b => pF i (by omega) (by omega) (by omega))
  obtain ⟨ρ, τ, hM, hA⟩ := id hQ2
  refine sw_V (M' := MX5_next) (d' := d - 1) (bc' := 1) (bs' := 12) (ci := 6) (as := [_]) dL_law_1444 w_1309 ok_X5_next (q_next hQ2 (hV.iv hN) (by omega) (by omega) (Nat.le_refl _) (Nat.le_refl _)) hM.ob rfl (by omega) (Nat.le_of_ble_eq_true rfl) (by omega) (by omega) (fun E h' n' _ z => pmc_x z) (pmc_k ox_next (fun u un ub uk uv uR uF => ?_))
  refine sw_istore (pc' := 1449) (lv' := [(6, _), (5, _), (4, _), (3, _), (2, _), (1, _), (0, _)]) rfl dL_law_1447 (by decide +kernel) rfl ?_
  refine sw_aload_n (pc' := 1450) rfl dL_law_1449 rfl ?_
  obtain ⟨uρ, uτ, uM, uA⟩ := id uR
  refine sw_V (M' := MX5_thrown) (d' := d - 1) (bc' := 0) (bs' := 0) (ci := 6) (as := []) dL_law_1450 w_1157 ok_X5_thrown (q_thrown uM) uM.ob rfl (by omega) (Nat.le_of_ble_eq_true rfl) (Nat.zero_le _) (Nat.zero_le _) (fun E h' n' _ z => det_x z) (det_k ?_)
  refine sw_iload (pc' := 1455) rfl dL_law_1453 rfl ?_
  refine sw_icmp_eq (pc' := 1458) (tgt := 1460) rfl dL_law_1455 (by decide +kernel) (fun c1455 => ?_) (fun c1455 => ?_)
  · refine sw_iload (pc' := 1462) rfl dL_law_1460 rfl ?_
    refine sw_if_ne (pc' := 1465) (tgt := 1478) rfl dL_law_1462 (by decide +kernel) (fun c1462 => ?_) (fun c1462 => ?_)
    · refine sw_goto (tgt := 3123) dL_law_1478 (by decide +kernel) ?_
      have J : LI L xs u un (opNext σ (xs (i + 1))).2 (N + 12) := ⟨pR.frT (fun i hi => uF i (by omega) (by omega)), ⟨_, uR⟩, hT.fr (fun i hi => (uF i (by omega) (by omega)).trans (pF i (by omega) (by omega) (by omega))), iv_next hV, ⟨_, _, (uF 158 (by omega) (by omega)).trans pO⟩, (uF 0 (by omega) (by omega)).trans ((pF 0 (by omega) (by omega) (by omega)).trans hs), by omega⟩
      exact SW.pick [2, 3, 4, 5, 6] rfl ((K u un _ (by omega) J).bud (by omega) (by omega))
    · refine sw_aload_n (pc' := 1466) rfl dL_law_1465 rfl ?_
      refine sw_getN (ci := 5) (k := 0) (pc' := 1469) rfl dL_law_1466 (by decide +kernel) v_347 ((uF 158 (by omega) (by omega)).trans pO) (by show 100 ≤ _; omega) rfl ?_
      refine sw_iload (pc' := 1471) rfl dL_law_1469 rfl ?_
      refine sw_i2l (pc' := 1472) rfl dL_law_1471 ?_
      refine sw_lcmp (pc' := 1473) rfl dL_law_1472 ?_
      refine sw_if_eq (pc' := 1476) (tgt := 1478) rfl dL_law_1473 (by decide +kernel) (fun c1473 => ?_) (fun c1473 => ?_)
      · refine sw_goto (tgt := 3123) dL_law_1478 (by decide +kernel) ?_
        have J : LI L xs u un (opNext σ (xs (i + 1))).2 (N + 12) := ⟨pR.frT (fun i hi => uF i (by omega) (by omega)), ⟨_, uR⟩, hT.fr (fun i hi => (uF i (by omega) (by omega)).trans (pF i (by omega) (by omega) (by omega))), iv_next hV, ⟨_, _, (uF 158 (by omega) (by omega)).trans pO⟩, (uF 0 (by omega) (by omega)).trans ((pF 0 (by omega) (by omega) (by omega)).trans hs), by omega⟩
        exact SW.pick [2, 3, 4, 5, 6] rfl ((K u un _ (by omega) J).bud (by omega) (by omega))
      · obtain ⟨v9, e9⟩ := ox_0 ox_next c1462
        exact absurd (by rw [pv v9 e9, uv v9 e9]; exact lg_self _) c1473
  · exact absurd rfl c1455
theorem lc_17 {L : Nat} {xs : Nat → Int32} {h : AH} {n i N d bc bs : Nat} {σ : CS} {Post : ARes → AH → Nat → Prop} (hI : LI L xs h n σ N) (hN : N < 2 ^ 31) (hL : L ≤ 3072) (hi : i + 6 ≤ L) (hd : 20 ≤ d) (h1 : 380 ≤ bc) (h2 : 4500 ≤ bs) (K : ∀ (h' : AH) (n' : Nat) (σ' : CS), n ≤ n' → LI L xs h' n' σ' (N + 12) → SW SR0 ML_law d (bc - 380) (bs - 4500) 3123 [(4, .int (nI i)), (3, .ref 158), (2, .ref 135), (1, .ref 100), (0, .ref 0)] [] h' n' Post) : SW SR0 ML_law d bc bs 1481 [(4, .int (nI i)), (3, .ref 158), (2, .ref 135), (1, .ref 100), (0, .ref 0)] [] h n Post := by
  obtain ⟨hR, ⟨th, hQ⟩, hT, hV, ⟨w, s, hO⟩, hs, hn⟩ := hI
  refine sw_aload_n (pc' := 1482) rfl dL_law_1481 rfl ?_
  refine sw_aload_n (pc' := 1483) rfl dL_law_1482 rfl ?_
  refine sw_iload (pc' := 1485) rfl dL_law_1483 rfl ?_
  refine sw_iconst (pc' := 1486) (v := 1) rfl dL_law_1485 (by decide +kernel) ?_
  refine sw_iadd (pc' := 1487) rfl dL_law_1486 ?_
  rw [show (nI i) + 1 = nI (i + 1) from nI_add _ _]
  refine sw_iald (j := i + 1) (pc' := 1488) rfl dL_law_1487 hs rfl (by omega) (by omega) ?_
  refine sw_aload_n (pc' := 1489) rfl dL_law_1488 rfl ?_
  refine sw_S (M' := ML_more) (d' := d - 1) (bc' := 60) (bs' := 400) (as := [_, _, _]) dL_law_1489 w_644 ok_L_more (L_more hR hT hV hN hO hn (by omega) (Nat.le_refl _) (Nat.le_refl _)) (by omega) (Nat.le_of_ble_eq_true rfl) (by omega) (by omega) (fun E h' n' _ z => lpo_x z) (lpo_k (fun p pn pw ps pk pR pO pv pF => ?_))
  refine sw_istore (pc' := 1494) (lv' := [(5, _), (4, _), (3, _), (2, _), (1, _), (0, _)]) rfl dL_law_1492 (by decide +kernel) rfl ?_
  refine sw_aload_n (pc' := 1495) rfl dL_law_1494 rfl ?_
  refine sw_aload_n (pc' := 1496) rfl dL_law_1495 rfl ?_
  refine sw_iload (pc' := 1498) rfl dL_law_1496 rfl ?_
  refine sw_iconst (pc' := 1499) (v := 1) rfl dL_law_1498 (by decide +kernel) ?_
  refine sw_iadd (pc' := 1500) rfl dL_law_1499 ?_
  rw [show (nI i) + 1 = nI (i + 1) from nI_add _ _]
  refine sw_iald (j := i + 1) (pc' := 1501) rfl dL_law_1500 ((pF 0 (by omega) (by omega) (by omega)).trans hs) rfl (by omega) (by omega) ?_
  have hQ2 := hQ.fr (fun i a b => pF i (by omega) (by omega) (by omega))
  obtain ⟨ρ, τ, hM, hA⟩ := id hQ2
  refine sw_V (M' := MX5_more) (d' := d - 1) (bc' := 1) (bs' := 12) (ci := 6) (as := [_]) dL_law_1501 w_1329 ok_X5_more (q_more hQ2 (hV.iv hN) (by omega) (by omega) (Nat.le_refl _) (Nat.le_refl _)) hM.ob rfl (by omega) (Nat.le_of_ble_eq_true rfl) (by omega) (by omega) (fun E h' n' _ z => pmc_x z) (pmc_k ox_more (fun u un ub uk uv uR uF => ?_))
  refine sw_istore (pc' := 1506) (lv' := [(6, _), (5, _), (4, _), (3, _), (2, _), (1, _), (0, _)]) rfl dL_law_1504 (by decide +kernel) rfl ?_
  refine sw_aload_n (pc' := 1507) rfl dL_law_1506 rfl ?_
  obtain ⟨uρ, uτ, uM, uA⟩ := id uR
  refine sw_V (M' := MX5_thrown) (d' := d - 1) (bc' := 0) (bs' := 0) (ci := 6) (as := []) dL_law_1507 w_1157 ok_X5_thrown (q_thrown uM) uM.ob rfl (by omega) (Nat.le_of_ble_eq_true rfl) (Nat.zero_le _) (Nat.zero_le _) (fun E h' n' _ z => det_x z) (det_k ?_)
  refine sw_iload (pc' := 1512) rfl dL_law_1510 rfl ?_
  refine sw_icmp_eq (pc' := 1515) (tgt := 1517) rfl dL_law_1512 (by decide +kernel) (fun c1512 => ?_) (fun c1512 => ?_)
  · refine sw_iload (pc' := 1519) rfl dL_law_1517 rfl ?_
    refine sw_if_ne (pc' := 1522) (tgt := 1535) rfl dL_law_1519 (by decide +kernel) (fun c1519 => ?_) (fun c1519 => ?_)
    · refine sw_goto (tgt := 3123) dL_law_1535 (by decide +kernel) ?_
      have J : LI L xs u un (opMore σ (xs (i + 1))).2 (N + 12) := ⟨pR.frT (fun i hi => uF i (by omega) (by omega)), ⟨_, uR⟩, hT.fr (fun i hi => (uF i (by omega) (by omega)).trans (pF i (by omega) (by omega) (by omega))), iv_more hV, ⟨_, _, (uF 158 (by omega) (by omega)).trans pO⟩, (uF 0 (by omega) (by omega)).trans ((pF 0 (by omega) (by omega) (by omega)).trans hs), by omega⟩
      exact SW.pick [2, 3, 4, 5, 6] rfl ((K u un _ (by omega) J).bud (by omega) (by omega))
    · refine sw_aload_n (pc' := 1523) rfl dL_law_1522 rfl ?_
      refine sw_getN (ci := 5) (k := 0) (pc' := 1526) rfl dL_law_1523 (by decide +kernel) v_347 ((uF 158 (by omega) (by omega)).trans pO) (by show 100 ≤ _; omega) rfl ?_
      refine sw_iload (pc' := 1528) rfl dL_law_1526 rfl ?_
      refine sw_i2l (pc' := 1529) rfl dL_law_1528 ?_
      refine sw_lcmp (pc' := 1530) rfl dL_law_1529 ?_
      refine sw_if_eq (pc' := 1533) (tgt := 1535) rfl dL_law_1530 (by decide +kernel) (fun c1530 => ?_) (fun c1530 => ?_)
      · refine sw_goto (tgt := 3123) dL_law_1535 (by decide +kernel) ?_
        have J : LI L xs u un (opMore σ (xs (i + 1))).2 (N + 12) := ⟨pR.frT (fun i hi => uF i (by omega) (by omega)), ⟨_, uR⟩, hT.fr (fun i hi => (uF i (by omega) (by omega)).trans (pF i (by omega) (by omega) (by omega))), iv_more hV, ⟨_, _, (uF 158 (by omega) (by omega)).trans pO⟩, (uF 0 (by omega) (by omega)).trans ((pF 0 (by omega) (by omega) (by omega)).trans hs), by omega⟩
        exact SW.pick [2, 3, 4, 5, 6] rfl ((K u un _ (by omega) J).bud (by omega) (by omega))
      · obtain ⟨v9, e9⟩ := ox_0 ox_more c1519
        exact absurd (by rw [pv v9 e9, uv v9 e9]; exact lg_self _) c1530
  · exact absurd rfl c1512
theorem lc_18 {L : Nat} {xs : Nat → Int32} {h : AH} {n i N d bc bs : Nat} {σ : CS} {Post : ARes → AH → Nat → Prop} (hI : LI L xs h n σ N) (hN : N < 2 ^ 31) (hL : L ≤ 3072) (hi : i + 6 ≤ L) (hd : 20 ≤ d) (h1 : 380 ≤ bc) (h2 : 4500 ≤ bs) (K : ∀ (h' : AH) (n' : Nat) (σ' : CS), n ≤ n' → LI L xs h' n' σ' (N + 12) → SW SR0 ML_law d (bc - 380) (bs - 4500) 3123 [(4, .int (nI i)), (3, .ref 158), (2, .ref 135), (1, .ref 100), (0, .ref 0)] [] h' n' Post) : SW SR0 ML_law d bc bs 1538 [(4, .int (nI i)), (3, .ref 158), (2, .ref 135), (1, .ref 100), (0, .ref 0)] [] h n Post := by
  obtain ⟨hR, ⟨th, hQ⟩, hT, hV, ⟨w, s, hO⟩, hs, hn⟩ := hI
  refine sw_aload_n (pc' := 1539) rfl dL_law_1538 rfl ?_
  refine sw_aload_n (pc' := 1540) rfl dL_law_1539 rfl ?_
  refine sw_iload (pc' := 1542) rfl dL_law_1540 rfl ?_
  refine sw_iconst (pc' := 1543) (v := 1) rfl dL_law_1542 (by decide +kernel) ?_
  refine sw_iadd (pc' := 1544) rfl dL_law_1543 ?_
  rw [show (nI i) + 1 = nI (i + 1) from nI_add _ _]
  refine sw_iald (j := i + 1) (pc' := 1545) rfl dL_law_1544 hs rfl (by omega) (by omega) ?_
  refine sw_aload_n (pc' := 1546) rfl dL_law_1545 rfl ?_
  refine sw_S (M' := ML_takeOut) (d' := d - 1) (bc' := 60) (bs' := 400) (as := [_, _, _]) dL_law_1546 w_651 ok_L_takeOut (L_takeOut hR hT hV hN hO hn (by omega) (Nat.le_refl _) (Nat.le_refl _)) (by omega) (Nat.le_of_ble_eq_true rfl) (by omega) (by omega) (fun E h' n' _ z => lpo_x z) (lpo_k (fun p pn pw ps pk pR pO pv pF => ?_))
  refine sw_istore (pc' := 1551) (lv' := [(5, _), (4, _), (3, _), (2, _), (1, _), (0, _)]) rfl dL_law_1549 (by decide +kernel) rfl ?_
  refine sw_aload_n (pc' := 1552) rfl dL_law_1551 rfl ?_
  refine sw_aload_n (pc' := 1553) rfl dL_law_1552 rfl ?_
  refine sw_iload (pc' := 1555) rfl dL_law_1553 rfl ?_
  refine sw_iconst (pc' := 1556) (v := 1) rfl dL_law_1555 (by decide +kernel) ?_
  refine sw_iadd (pc' := 1557) rfl dL_law_1556 ?_
  rw [show (nI i) + 1 = nI (i + 1) from nI_add _ _]
  refine sw_iald (j := i + 1) (pc' := 1558) rfl dL_law_1557 ((pF 0 (by omega) (by omega) (by omega)).trans hs) rfl (by omega) (by omega) ?_
  have hQ2 := hQ.fr (fun i a b => pF i (by omega) (by omega) (by omega))
  obtain ⟨ρ, τ, hM, hA⟩ := id hQ2
  refine sw_V (M' := MX5_takeOut) (d' := d - 1) (bc' := 1) (bs' := 12) (ci := 6) (as := [_]) dL_law_1558 w_1333 ok_X5_takeOut (q_takeOut hQ2 (hV.iv hN) (by omega) (by omega) (Nat.le_refl _) (Nat.le_refl _)) hM.ob rfl (by omega) (Nat.le_of_ble_eq_true rfl) (by omega) (by omega) (fun E h' n' _ z => pmc_x z) (pmc_k ox_takeOut (fun u un ub uk uv uR uF => ?_))
  refine sw_istore (pc' := 1563) (lv' := [(6, _), (5, _), (4, _), (3, _), (2, _), (1, _), (0, _)]) rfl dL_law_1561 (by decide +kernel) rfl ?_
  refine sw_aload_n (pc' := 1564) rfl dL_law_1563 rfl ?_
  obtain ⟨uρ, uτ, uM, uA⟩ := id uR
  refine sw_V (M' := MX5_thrown) (d' := d - 1) (bc' := 0) (bs' := 0) (ci := 6) (as := []) dL_law_1564 w_1157 ok_X5_thrown (q_thrown uM) uM.ob rfl (by omega) (Nat.le_of_ble_eq_true rfl) (Nat.zero_le _) (Nat.zero_le _) (fun E h' n' _ z => det_x z) (det_k ?_)
  refine sw_iload (pc' := 1569) rfl dL_law_1567 rfl ?_
  refine sw_icmp_eq (pc' := 1572) (tgt := 1574) rfl dL_law_1569 (by decide +kernel) (fun c1569 => ?_) (fun c1569 => ?_)
  · refine sw_iload (pc' := 1576) rfl dL_law_1574 rfl ?_
    refine sw_if_ne (pc' := 1579) (tgt := 1592) rfl dL_law_1576 (by decide +kernel) (fun c1576 => ?_) (fun c1576 => ?_)
    · refine sw_goto (tgt := 3123) dL_law_1592 (by decide +kernel) ?_
      have J : LI L xs u un (opTakeOut σ (xs (i + 1))).2 (N + 12) := ⟨pR.frT (fun i hi => uF i (by omega) (by omega)), ⟨_, uR⟩, hT.fr (fun i hi => (uF i (by omega) (by omega)).trans (pF i (by omega) (by omega) (by omega))), iv_takeOut hV hN, ⟨_, _, (uF 158 (by omega) (by omega)).trans pO⟩, (uF 0 (by omega) (by omega)).trans ((pF 0 (by omega) (by omega) (by omega)).trans hs), by omega⟩
      exact SW.pick [2, 3, 4, 5, 6] rfl ((K u un _ (by omega) J).bud (by omega) (by omega))
    · refine sw_aload_n (pc' := 1580) rfl dL_law_1579 rfl ?_
      refine sw_getN (ci := 5) (k := 0) (pc' := 1583) rfl dL_law_1580 (by decide +kernel) v_347 ((uF 158 (by omega) (by omega)).trans pO) (by show 100 ≤ _; omega) rfl ?_
      refine sw_iload (pc' := 1585) rfl dL_law_1583 rfl ?_
      refine sw_i2l (pc' := 1586) rfl dL_law_1585 ?_
      refine sw_lcmp (pc' := 1587) rfl dL_law_1586 ?_
      refine sw_if_eq (pc' := 1590) (tgt := 1592) rfl dL_law_1587 (by decide +kernel) (fun c1587 => ?_) (fun c1587 => ?_)
      · refine sw_goto (tgt := 3123) dL_law_1592 (by decide +kernel) ?_
        have J : LI L xs u un (opTakeOut σ (xs (i + 1))).2 (N + 12) := ⟨pR.frT (fun i hi => uF i (by omega) (by omega)), ⟨_, uR⟩, hT.fr (fun i hi => (uF i (by omega) (by omega)).trans (pF i (by omega) (by omega) (by omega))), iv_takeOut hV hN, ⟨_, _, (uF 158 (by omega) (by omega)).trans pO⟩, (uF 0 (by omega) (by omega)).trans ((pF 0 (by omega) (by omega) (by omega)).trans hs), by omega⟩
        exact SW.pick [2, 3, 4, 5, 6] rfl ((K u un _ (by omega) J).bud (by omega) (by omega))
      · obtain ⟨v9, e9⟩ := ox_0 ox_takeOut c1576
        exact absurd (by rw [pv v9 e9, uv v9 e9]; exact lg_self _) c1587
  · exact absurd rfl c1569
theorem lc_19 {L : Nat} {xs : Nat → Int32} {h : AH} {n i N d bc bs : Nat} {σ : CS} {Post : ARes → AH → Nat → Prop} (hI : LI L xs h n σ N) (hN : N < 2 ^ 31) (hL : L ≤ 3072) (hi : i + 6 ≤ L) (hd : 20 ≤ d) (h1 : 380 ≤ bc) (h2 : 4500 ≤ bs) (K : ∀ (h' : AH) (n' : Nat) (σ' : CS), n ≤ n' → LI L xs h' n' σ' (N + 12) → SW SR0 ML_law d (bc - 380) (bs - 4500) 3123 [(4, .int (nI i)), (3, .ref 158), (2, .ref 135), (1, .ref 100), (0, .ref 0)] [] h' n' Post) : SW SR0 ML_law d bc bs 1595 [(4, .int (nI i)), (3, .ref 158), (2, .ref 135), (1, .ref 100), (0, .ref 0)] [] h n Post := by
  obtain ⟨hR, ⟨th, hQ⟩, hT, hV, ⟨w, s, hO⟩, hs, hn⟩ := hI
  refine sw_aload_n (pc' := 1596) rfl dL_law_1595 rfl ?_
  refine sw_aload_n (pc' := 1597) rfl dL_law_1596 rfl ?_
  refine sw_iload (pc' := 1599) rfl dL_law_1597 rfl ?_
  refine sw_iconst (pc' := 1600) (v := 1) rfl dL_law_1599 (by decide +kernel) ?_
  refine sw_iadd (pc' := 1601) rfl dL_law_1600 ?_
  rw [show (nI i) + 1 = nI (i + 1) from nI_add _ _]
  refine sw_iald (j := i + 1) (pc' := 1602) rfl dL_law_1601 hs rfl (by omega) (by omega) ?_
  refine sw_aload_n (pc' := 1603) rfl dL_law_1602 rfl ?_
  refine sw_S (M' := ML_rest) (d' := d - 1) (bc' := 60) (bs' := 400) (as := [_, _, _]) dL_law_1603 w_666 ok_L_rest (L_rest hR hT hV hN hO hn (by omega) (Nat.le_refl _) (Nat.le_refl _)) (by omega) (Nat.le_of_ble_eq_true rfl) (by omega) (by omega) (fun E h' n' _ z => lpt_x z) (lpt_k (fun p pn pw ps pk pR pO pv pF => ?_))
  refine sw_istore (pc' := 1608) (lv' := [(5, _), (4, _), (3, _), (2, _), (1, _), (0, _)]) rfl dL_law_1606 (by decide +kernel) rfl ?_
  refine sw_aload_n (pc' := 1609) rfl dL_law_1608 rfl ?_
  refine sw_aload_n (pc' := 1610) rfl dL_law_1609 rfl ?_
  refine sw_iload (pc' := 1612) rfl dL_law_1610 rfl ?_
  refine sw_iconst (pc' := 1613) (v := 1) rfl dL_law_1612 (by decide +kernel) ?_
  refine sw_iadd (pc' := 1614) rfl dL_law_1613 ?_
  rw [show (nI i) + 1 = nI (i + 1) from nI_add _ _]
  refine sw_iald (j := i + 1) (pc' := 1615) rfl dL_law_1614 ((pF 0 (by omega) (by omega) (by omega)).trans hs) rfl (by omega) (by omega) ?_
  have hQ2 := hQ.fr (fun i a b => pF i (by omega) (by omega) (by omega))
  obtain ⟨ρ, τ, hM, hA⟩ := id hQ2
  have pT := hT.fr (fun i hi => pF i (by omega) (by omega) (by omega))
  refine sw_V (M' := MX5_rest) (d' := d - 1) (bc' := 200) (bs' := 2800) (ci := 6) (as := [_]) dL_law_1615 w_1337 ok_X5_rest (q_rest hQ2 (hV.iv hN) (by omega) (by omega) (Nat.le_refl _) (Nat.le_refl _) pT) hM.ob rfl (by omega) (Nat.le_of_ble_eq_true rfl) (by omega) (by omega) (fun E h' n' _ z => ptc_x z) (ptl_k (fun u un ux uk uS uR uF => ?_))
  refine sw_astore (pc' := 1620) (lv' := [(6, _), (5, _), (4, _), (3, _), (2, _), (1, _), (0, _)]) rfl dL_law_1618 (by decide +kernel) rfl ?_
  refine sw_aload_n (pc' := 1621) rfl dL_law_1620 rfl ?_
  obtain ⟨uρ, uτ, uM, uA⟩ := id uR
  refine sw_V (M' := MX5_thrown) (d' := d - 1) (bc' := 0) (bs' := 0) (ci := 6) (as := []) dL_law_1621 w_1157 ok_X5_thrown (q_thrown uM) uM.ob rfl (by omega) (Nat.le_of_ble_eq_true rfl) (Nat.zero_le _) (Nat.zero_le _) (fun E h' n' _ z => det_x z) (det_k ?_)
  refine sw_iload (pc' := 1626) rfl dL_law_1624 rfl ?_
  refine sw_icmp_eq (pc' := 1629) (tgt := 1631) rfl dL_law_1626 (by decide +kernel) (fun c1626 => ?_) (fun c1626 => ?_)
  · refine sw_iload (pc' := 1633) rfl dL_law_1631 rfl ?_
    refine sw_if_ne (pc' := 1636) (tgt := 1650) rfl dL_law_1633 (by decide +kernel) (fun c1633 => ?_) (fun c1633 => ?_)
    · refine sw_goto (tgt := 3123) dL_law_1650 (by decide +kernel) ?_
      have J : LI L xs u un (opRest σ (xs (i + 1))).2 (N + 12) := ⟨pR.frT (fun i hi => uF i (by omega) (by omega)), ⟨_, uR⟩, hT.fr (fun i hi => (uF i (by omega) (by omega)).trans (pF i (by omega) (by omega) (by omega))), iv_rest hV, ⟨_, _, (uF 158 (by omega) (by omega)).trans pO⟩, (uF 0 (by omega) (by omega)).trans ((pF 0 (by omega) (by omega) (by omega)).trans hs), by omega⟩
      exact SW.pick [2, 3, 4, 5, 6] rfl ((K u un _ (by omega) J).bud (by omega) (by omega))
    · refine sw_aload_n (pc' := 1637) rfl dL_law_1636 rfl ?_
      refine sw_getN (ci := 5) (k := 1) (pc' := 1640) rfl dL_law_1637 (by decide +kernel) v_348 ((uF 158 (by omega) (by omega)).trans pO) (by show 100 ≤ _; omega) rfl ?_
      refine sw_aload (pc' := 1642) rfl dL_law_1640 rfl ?_
      have e9 : (opRest σ (xs (i + 1))).1 = ivN := ot_0 ot_rest c1633
      obtain ⟨x1, L1, es, hL1, S1⟩ := pv e9
      subst es
      obtain ⟨L2, hL2, S2⟩ := uS e9
      have S3 := S1.fr (fun i a b => uF i (by omega) (by omega)) uk
      obtain ⟨v1, f1, r1, ht1, -⟩ := id S3
      refine sw_V (M' := MJ0_equals_9ea2d) (d' := d - 1) (bc' := 0) (bs' := 0) (ci := 0) (as := [_]) dL_law_1642 w_1485 ok_J0_equals_9ea2d (j_equals S3.st S2.st (by omega) (by omega)) ht1 rfl (by omega) (Nat.le_of_ble_eq_true rfl) (Nat.zero_le _) (Nat.zero_le _) (fun E h' n' _ z => det_x z) (det_k ?_)
      refine sw_if_ne (pc' := 1648) (tgt := 1650) rfl dL_law_1645 (by decide +kernel) (fun c1645 => ?_) (fun c1645 => ?_)
      · refine sw_goto (tgt := 3123) dL_law_1650 (by decide +kernel) ?_
        have J : LI L xs u un (opRest σ (xs (i + 1))).2 (N + 12) := ⟨pR.frT (fun i hi => uF i (by omega) (by omega)), ⟨_, uR⟩, hT.fr (fun i hi => (uF i (by omega) (by omega)).trans (pF i (by omega) (by omega) (by omega))), iv_rest hV, ⟨_, _, (uF 158 (by omega) (by omega)).trans pO⟩, (uF 0 (by omega) (by omega)).trans ((pF 0 (by omega) (by omega) (by omega)).trans hs), by omega⟩
        exact SW.pick [2, 3, 4, 5, 6] rfl ((K u un _ (by omega) J).bud (by omega) (by omega))
      · exact absurd c1645 (by decide +kernel)
  · exact absurd rfl c1626
theorem lc_20 {L : Nat} {xs : Nat → Int32} {h : AH} {n i N d bc bs : Nat} {σ : CS} {Post : ARes → AH → Nat → Prop} (hI : LI L xs h n σ N) (hN : N < 2 ^ 31) (hL : L ≤ 3072) (hi : i + 6 ≤ L) (hd : 20 ≤ d) (h1 : 380 ≤ bc) (h2 : 4500 ≤ bs) (K : ∀ (h' : AH) (n' : Nat) (σ' : CS), n ≤ n' → LI L xs h' n' σ' (N + 12) → SW SR0 ML_law d (bc - 380) (bs - 4500) 3123 [(4, .int (nI i)), (3, .ref 158), (2, .ref 135), (1, .ref 100), (0, .ref 0)] [] h' n' Post) : SW SR0 ML_law d bc bs 1653 [(4, .int (nI i)), (3, .ref 158), (2, .ref 135), (1, .ref 100), (0, .ref 0)] [] h n Post := by
  obtain ⟨hR, ⟨th, hQ⟩, hT, hV, ⟨w, s, hO⟩, hs, hn⟩ := hI
  refine sw_aload_n (pc' := 1654) rfl dL_law_1653 rfl ?_
  refine sw_aload_n (pc' := 1655) rfl dL_law_1654 rfl ?_
  refine sw_iload (pc' := 1657) rfl dL_law_1655 rfl ?_
  refine sw_iconst (pc' := 1658) (v := 1) rfl dL_law_1657 (by decide +kernel) ?_
  refine sw_iadd (pc' := 1659) rfl dL_law_1658 ?_
  rw [show (nI i) + 1 = nI (i + 1) from nI_add _ _]
  refine sw_iald (j := i + 1) (pc' := 1660) rfl dL_law_1659 hs rfl (by omega) (by omega) ?_
  refine sw_aload_n (pc' := 1661) rfl dL_law_1660 rfl ?_
  refine sw_iload (pc' := 1663) rfl dL_law_1661 rfl ?_
  refine sw_iconst (pc' := 1664) (v := 2) rfl dL_law_1663 (by decide +kernel) ?_
  refine sw_iadd (pc' := 1665) rfl dL_law_1664 ?_
  rw [show (nI i) + 2 = nI (i + 2) from nI_add _ _]
  refine sw_iald (j := i + 2) (pc' := 1666) rfl dL_law_1665 hs rfl (by omega) (by omega) ?_
  refine sw_aload_n (pc' := 1667) rfl dL_law_1666 rfl ?_
  refine sw_S (M' := ML_keepRest) (d' := d - 1) (bc' := 60) (bs' := 400) (as := [_, _, _, _]) dL_law_1667 w_952 ok_L_keepRest (L_keepRest hR hT hV hN hO hn (by omega) (Nat.le_refl _) (Nat.le_refl _)) (by omega) (Nat.le_of_ble_eq_true rfl) (by omega) (by omega) (fun E h' n' _ z => lpo_x z) (lpo_k (fun p pn pw ps pk pR pO pv pF => ?_))
  refine sw_istore (pc' := 1672) (lv' := [(5, _), (4, _), (3, _), (2, _), (1, _), (0, _)]) rfl dL_law_1670 (by decide +kernel) rfl ?_
  refine sw_aload_n (pc' := 1673) rfl dL_law_1672 rfl ?_
  refine sw_aload_n (pc' := 1674) rfl dL_law_1673 rfl ?_
  refine sw_iload (pc' := 1676) rfl dL_law_1674 rfl ?_
  refine sw_iconst (pc' := 1677) (v := 1) rfl dL_law_1676 (by decide +kernel) ?_
  refine sw_iadd (pc' := 1678) rfl dL_law_1677 ?_
  rw [show (nI i) + 1 = nI (i + 1) from nI_add _ _]
  refine sw_iald (j := i + 1) (pc' := 1679) rfl dL_law_1678 ((pF 0 (by omega) (by omega) (by omega)).trans hs) rfl (by omega) (by omega) ?_
  refine sw_aload_n (pc' := 1680) rfl dL_law_1679 rfl ?_
  refine sw_iload (pc' := 1682) rfl dL_law_1680 rfl ?_
  refine sw_iconst (pc' := 1683) (v := 2) rfl dL_law_1682 (by decide +kernel) ?_
  refine sw_iadd (pc' := 1684) rfl dL_law_1683 ?_
  rw [show (nI i) + 2 = nI (i + 2) from nI_add _ _]
  refine sw_iald (j := i + 2) (pc' := 1685) rfl dL_law_1684 ((pF 0 (by omega) (by omega) (by omega)).trans hs) rfl (by omega) (by omega) ?_
  have hQ2 := hQ.fr (fun i a b => pF i (by omega) (by omega) (by omega))
  obtain ⟨ρ, τ, hM, hA⟩ := id hQ2
  refine sw_V (M' := MX5_keepRest) (d' := d - 1) (bc' := 1) (bs' := 12) (ci := 6) (as := [_, _]) dL_law_1685 w_1364 ok_X5_keepRest (q_keepRest hQ2 (hV.iv hN) (by omega) (by omega) (Nat.le_refl _) (Nat.le_refl _)) hM.ob rfl (by omega) (Nat.le_of_ble_eq_true rfl) (by omega) (by omega) (fun E h' n' _ z => pmc_x z) (pmc_k ox_keepRest (fun u un ub uk uv uR uF => ?_))
  refine sw_istore (pc' := 1690) (lv' := [(6, _), (5, _), (4, _), (3, _), (2, _), (1, _), (0, _)]) rfl dL_law_1688 (by decide +kernel) rfl ?_
  refine sw_aload_n (pc' := 1691) rfl dL_law_1690 rfl ?_
  obtain ⟨uρ, uτ, uM, uA⟩ := id uR
  refine sw_V (M' := MX5_thrown) (d' := d - 1) (bc' := 0) (bs' := 0) (ci := 6) (as := []) dL_law_1691 w_1157 ok_X5_thrown (q_thrown uM) uM.ob rfl (by omega) (Nat.le_of_ble_eq_true rfl) (Nat.zero_le _) (Nat.zero_le _) (fun E h' n' _ z => det_x z) (det_k ?_)
  refine sw_iload (pc' := 1696) rfl dL_law_1694 rfl ?_
  refine sw_icmp_eq (pc' := 1699) (tgt := 1701) rfl dL_law_1696 (by decide +kernel) (fun c1696 => ?_) (fun c1696 => ?_)
  · refine sw_iload (pc' := 1703) rfl dL_law_1701 rfl ?_
    refine sw_if_ne (pc' := 1706) (tgt := 1719) rfl dL_law_1703 (by decide +kernel) (fun c1703 => ?_) (fun c1703 => ?_)
    · refine sw_goto (tgt := 3123) dL_law_1719 (by decide +kernel) ?_
      have J : LI L xs u un (opKeepRest σ (xs (i + 1)) (xs (i + 2))).2 (N + 12) := ⟨pR.frT (fun i hi => uF i (by omega) (by omega)), ⟨_, uR⟩, hT.fr (fun i hi => (uF i (by omega) (by omega)).trans (pF i (by omega) (by omega) (by omega))), iv_keepRest hV, ⟨_, _, (uF 158 (by omega) (by omega)).trans pO⟩, (uF 0 (by omega) (by omega)).trans ((pF 0 (by omega) (by omega) (by omega)).trans hs), by omega⟩
      exact SW.pick [2, 3, 4, 5, 6] rfl ((K u un _ (by omega) J).bud (by omega) (by omega))
    · refine sw_aload_n (pc' := 1707) rfl dL_law_1706 rfl ?_
      refine sw_getN (ci := 5) (k := 0) (pc' := 1710) rfl dL_law_1707 (by decide +kernel) v_347 ((uF 158 (by omega) (by omega)).trans pO) (by show 100 ≤ _; omega) rfl ?_
      refine sw_iload (pc' := 1712) rfl dL_law_1710 rfl ?_
      refine sw_i2l (pc' := 1713) rfl dL_law_1712 ?_
      refine sw_lcmp (pc' := 1714) rfl dL_law_1713 ?_
      refine sw_if_eq (pc' := 1717) (tgt := 1719) rfl dL_law_1714 (by decide +kernel) (fun c1714 => ?_) (fun c1714 => ?_)
      · refine sw_goto (tgt := 3123) dL_law_1719 (by decide +kernel) ?_
        have J : LI L xs u un (opKeepRest σ (xs (i + 1)) (xs (i + 2))).2 (N + 12) := ⟨pR.frT (fun i hi => uF i (by omega) (by omega)), ⟨_, uR⟩, hT.fr (fun i hi => (uF i (by omega) (by omega)).trans (pF i (by omega) (by omega) (by omega))), iv_keepRest hV, ⟨_, _, (uF 158 (by omega) (by omega)).trans pO⟩, (uF 0 (by omega) (by omega)).trans ((pF 0 (by omega) (by omega) (by omega)).trans hs), by omega⟩
        exact SW.pick [2, 3, 4, 5, 6] rfl ((K u un _ (by omega) J).bud (by omega) (by omega))
      · obtain ⟨v9, e9⟩ := ox_0 ox_keepRest c1703
        exact absurd (by rw [pv v9 e9, uv v9 e9]; exact lg_self _) c1714
  · exact absurd rfl c1696
theorem lc_21 {L : Nat} {xs : Nat → Int32} {h : AH} {n i N d bc bs : Nat} {σ : CS} {Post : ARes → AH → Nat → Prop} (hI : LI L xs h n σ N) (hN : N < 2 ^ 31) (hL : L ≤ 3072) (hi : i + 6 ≤ L) (hd : 20 ≤ d) (h1 : 380 ≤ bc) (h2 : 4500 ≤ bs) (K : ∀ (h' : AH) (n' : Nat) (σ' : CS), n ≤ n' → LI L xs h' n' σ' (N + 12) → SW SR0 ML_law d (bc - 380) (bs - 4500) 3123 [(4, .int (nI i)), (3, .ref 158), (2, .ref 135), (1, .ref 100), (0, .ref 0)] [] h' n' Post) : SW SR0 ML_law d bc bs 1722 [(4, .int (nI i)), (3, .ref 158), (2, .ref 135), (1, .ref 100), (0, .ref 0)] [] h n Post := by
  obtain ⟨hR, ⟨th, hQ⟩, hT, hV, ⟨w, s, hO⟩, hs, hn⟩ := hI
  refine sw_aload_n (pc' := 1723) rfl dL_law_1722 rfl ?_
  refine sw_aload_n (pc' := 1724) rfl dL_law_1723 rfl ?_
  refine sw_iload (pc' := 1726) rfl dL_law_1724 rfl ?_
  refine sw_iconst (pc' := 1727) (v := 1) rfl dL_law_1726 (by decide +kernel) ?_
  refine sw_iadd (pc' := 1728) rfl dL_law_1727 ?_
  rw [show (nI i) + 1 = nI (i + 1) from nI_add _ _]
  refine sw_iald (j := i + 1) (pc' := 1729) rfl dL_law_1728 hs rfl (by omega) (by omega) ?_
  refine sw_aload_n (pc' := 1730) rfl dL_law_1729 rfl ?_
  refine sw_iload (pc' := 1732) rfl dL_law_1730 rfl ?_
  refine sw_iconst (pc' := 1733) (v := 2) rfl dL_law_1732 (by decide +kernel) ?_
  refine sw_iadd (pc' := 1734) rfl dL_law_1733 ?_
  rw [show (nI i) + 2 = nI (i + 2) from nI_add _ _]
  refine sw_iald (j := i + 2) (pc' := 1735) rfl dL_law_1734 hs rfl (by omega) (by omega) ?_
  refine sw_aload_n (pc' := 1736) rfl dL_law_1735 rfl ?_
  refine sw_S (M' := ML_keep) (d' := d - 1) (bc' := 60) (bs' := 400) (as := [_, _, _, _]) dL_law_1736 w_964 ok_L_keep (L_keep hR hT hV hN hO hn (by omega) (Nat.le_refl _) (Nat.le_refl _)) (by omega) (Nat.le_of_ble_eq_true rfl) (by omega) (by omega) (fun E h' n' _ z => lpo_x z) (lpo_k (fun p pn pw ps pk pR pO pv pF => ?_))
  refine sw_istore (pc' := 1741) (lv' := [(5, _), (4, _), (3, _), (2, _), (1, _), (0, _)]) rfl dL_law_1739 (by decide +kernel) rfl ?_
  refine sw_aload_n (pc' := 1742) rfl dL_law_1741 rfl ?_
  refine sw_aload_n (pc' := 1743) rfl dL_law_1742 rfl ?_
  refine sw_iload (pc' := 1745) rfl dL_law_1743 rfl ?_
  refine sw_iconst (pc' := 1746) (v := 1) rfl dL_law_1745 (by decide +kernel) ?_
  refine sw_iadd (pc' := 1747) rfl dL_law_1746 ?_
  rw [show (nI i) + 1 = nI (i + 1) from nI_add _ _]
  refine sw_iald (j := i + 1) (pc' := 1748) rfl dL_law_1747 ((pF 0 (by omega) (by omega) (by omega)).trans hs) rfl (by omega) (by omega) ?_
  refine sw_aload_n (pc' := 1749) rfl dL_law_1748 rfl ?_
  refine sw_iload (pc' := 1751) rfl dL_law_1749 rfl ?_
  refine sw_iconst (pc' := 1752) (v := 2) rfl dL_law_1751 (by decide +kernel) ?_
  refine sw_iadd (pc' := 1753) rfl dL_law_1752 ?_
  rw [show (nI i) + 2 = nI (i + 2) from nI_add _ _]
  refine sw_iald (j := i + 2) (pc' := 1754) rfl dL_law_1753 ((pF 0 (by omega) (by omega) (by omega)).trans hs) rfl (by omega) (by omega) ?_
  have hQ2 := hQ.fr (fun i a b => pF i (by omega) (by omega) (by omega))
  obtain ⟨ρ, τ, hM, hA⟩ := id hQ2
  refine sw_V (M' := MX5_keep) (d' := d - 1) (bc' := 1) (bs' := 12) (ci := 6) (as := [_, _]) dL_law_1754 w_1375 ok_X5_keep (q_keep hQ2 (hV.iv hN) (by omega) (by omega) (Nat.le_refl _) (Nat.le_refl _)) hM.ob rfl (by omega) (Nat.le_of_ble_eq_true rfl) (by omega) (by omega) (fun E h' n' _ z => pmc_x z) (pmc_k ox_keep (fun u un ub uk uv uR uF => ?_))
  refine sw_istore (pc' := 1759) (lv' := [(6, _), (5, _), (4, _), (3, _), (2, _), (1, _), (0, _)]) rfl dL_law_1757 (by decide +kernel) rfl ?_
  refine sw_aload_n (pc' := 1760) rfl dL_law_1759 rfl ?_
  obtain ⟨uρ, uτ, uM, uA⟩ := id uR
  refine sw_V (M' := MX5_thrown) (d' := d - 1) (bc' := 0) (bs' := 0) (ci := 6) (as := []) dL_law_1760 w_1157 ok_X5_thrown (q_thrown uM) uM.ob rfl (by omega) (Nat.le_of_ble_eq_true rfl) (Nat.zero_le _) (Nat.zero_le _) (fun E h' n' _ z => det_x z) (det_k ?_)
  refine sw_iload (pc' := 1765) rfl dL_law_1763 rfl ?_
  refine sw_icmp_eq (pc' := 1768) (tgt := 1770) rfl dL_law_1765 (by decide +kernel) (fun c1765 => ?_) (fun c1765 => ?_)
  · refine sw_iload (pc' := 1772) rfl dL_law_1770 rfl ?_
    refine sw_if_ne (pc' := 1775) (tgt := 1788) rfl dL_law_1772 (by decide +kernel) (fun c1772 => ?_) (fun c1772 => ?_)
    · refine sw_goto (tgt := 3123) dL_law_1788 (by decide +kernel) ?_
      have J : LI L xs u un (opKeep σ (xs (i + 1)) (xs (i + 2))).2 (N + 12) := ⟨pR.frT (fun i hi => uF i (by omega) (by omega)), ⟨_, uR⟩, hT.fr (fun i hi => (uF i (by omega) (by omega)).trans (pF i (by omega) (by omega) (by omega))), iv_keep hV, ⟨_, _, (uF 158 (by omega) (by omega)).trans pO⟩, (uF 0 (by omega) (by omega)).trans ((pF 0 (by omega) (by omega) (by omega)).trans hs), by omega⟩
      exact SW.pick [2, 3, 4, 5, 6] rfl ((K u un _ (by omega) J).bud (by omega) (by omega))
    · refine sw_aload_n (pc' := 1776) rfl dL_law_1775 rfl ?_
      refine sw_getN (ci := 5) (k := 0) (pc' := 1779) rfl dL_law_1776 (by decide +kernel) v_347 ((uF 158 (by omega) (by omega)).trans pO) (by show 100 ≤ _; omega) rfl ?_
      refine sw_iload (pc' := 1781) rfl dL_law_1779 rfl ?_
      refine sw_i2l (pc' := 1782) rfl dL_law_1781 ?_
      refine sw_lcmp (pc' := 1783) rfl dL_law_1782 ?_
      refine sw_if_eq (pc' := 1786) (tgt := 1788) rfl dL_law_1783 (by decide +kernel) (fun c1783 => ?_) (fun c1783 => ?_)
      · refine sw_goto (tgt := 3123) dL_law_1788 (by decide +kernel) ?_
        have J : LI L xs u un (opKeep σ (xs (i + 1)) (xs (i + 2))).2 (N + 12) := ⟨pR.frT (fun i hi => uF i (by omega) (by omega)), ⟨_, uR⟩, hT.fr (fun i hi => (uF i (by omega) (by omega)).trans (pF i (by omega) (by omega) (by omega))), iv_keep hV, ⟨_, _, (uF 158 (by omega) (by omega)).trans pO⟩, (uF 0 (by omega) (by omega)).trans ((pF 0 (by omega) (by omega) (by omega)).trans hs), by omega⟩
        exact SW.pick [2, 3, 4, 5, 6] rfl ((K u un _ (by omega) J).bud (by omega) (by omega))
      · obtain ⟨v9, e9⟩ := ox_0 ox_keep c1772
        exact absurd (by rw [pv v9 e9, uv v9 e9]; exact lg_self _) c1783
  · exact absurd rfl c1765
theorem lc_22 {L : Nat} {xs : Nat → Int32} {h : AH} {n i N d bc bs : Nat} {σ : CS} {Post : ARes → AH → Nat → Prop} (hI : LI L xs h n σ N) (hN : N < 2 ^ 31) (hL : L ≤ 3072) (hi : i + 6 ≤ L) (hd : 20 ≤ d) (h1 : 380 ≤ bc) (h2 : 4500 ≤ bs) (K : ∀ (h' : AH) (n' : Nat) (σ' : CS), n ≤ n' → LI L xs h' n' σ' (N + 12) → SW SR0 ML_law d (bc - 380) (bs - 4500) 3123 [(4, .int (nI i)), (3, .ref 158), (2, .ref 135), (1, .ref 100), (0, .ref 0)] [] h' n' Post) : SW SR0 ML_law d bc bs 1791 [(4, .int (nI i)), (3, .ref 158), (2, .ref 135), (1, .ref 100), (0, .ref 0)] [] h n Post := by
  obtain ⟨hR, ⟨th, hQ⟩, hT, hV, ⟨w, s, hO⟩, hs, hn⟩ := hI
  refine sw_aload_n (pc' := 1792) rfl dL_law_1791 rfl ?_
  refine sw_aload_n (pc' := 1793) rfl dL_law_1792 rfl ?_
  refine sw_iload (pc' := 1795) rfl dL_law_1793 rfl ?_
  refine sw_iconst (pc' := 1796) (v := 1) rfl dL_law_1795 (by decide +kernel) ?_
  refine sw_iadd (pc' := 1797) rfl dL_law_1796 ?_
  rw [show (nI i) + 1 = nI (i + 1) from nI_add _ _]
  refine sw_iald (j := i + 1) (pc' := 1798) rfl dL_law_1797 hs rfl (by omega) (by omega) ?_
  refine sw_aload_n (pc' := 1799) rfl dL_law_1798 rfl ?_
  refine sw_S (M' := ML_drop) (d' := d - 1) (bc' := 60) (bs' := 400) (as := [_, _, _]) dL_law_1799 w_971 ok_L_drop (L_drop hR hT hV hN hO hn (by omega) (Nat.le_refl _) (Nat.le_refl _)) (by omega) (Nat.le_of_ble_eq_true rfl) (by omega) (by omega) (fun E h' n' _ z => lpo_x z) (lpo_k (fun p pn pw ps pk pR pO pv pF => ?_))
  refine sw_istore (pc' := 1804) (lv' := [(5, _), (4, _), (3, _), (2, _), (1, _), (0, _)]) rfl dL_law_1802 (by decide +kernel) rfl ?_
  refine sw_aload_n (pc' := 1805) rfl dL_law_1804 rfl ?_
  refine sw_aload_n (pc' := 1806) rfl dL_law_1805 rfl ?_
  refine sw_iload (pc' := 1808) rfl dL_law_1806 rfl ?_
  refine sw_iconst (pc' := 1809) (v := 1) rfl dL_law_1808 (by decide +kernel) ?_
  refine sw_iadd (pc' := 1810) rfl dL_law_1809 ?_
  rw [show (nI i) + 1 = nI (i + 1) from nI_add _ _]
  refine sw_iald (j := i + 1) (pc' := 1811) rfl dL_law_1810 ((pF 0 (by omega) (by omega) (by omega)).trans hs) rfl (by omega) (by omega) ?_
  have hQ2 := hQ.fr (fun i a b => pF i (by omega) (by omega) (by omega))
  obtain ⟨ρ, τ, hM, hA⟩ := id hQ2
  refine sw_V (M' := MX5_drop) (d' := d - 1) (bc' := 1) (bs' := 12) (ci := 6) (as := [_]) dL_law_1811 w_1379 ok_X5_drop (q_drop hQ2 (hV.iv hN) (by omega) (by omega) (Nat.le_refl _) (Nat.le_refl _)) hM.ob rfl (by omega) (Nat.le_of_ble_eq_true rfl) (by omega) (by omega) (fun E h' n' _ z => pmc_x z) (pmc_k ox_drop (fun u un ub uk uv uR uF => ?_))
  refine sw_istore (pc' := 1816) (lv' := [(6, _), (5, _), (4, _), (3, _), (2, _), (1, _), (0, _)]) rfl dL_law_1814 (by decide +kernel) rfl ?_
  refine sw_aload_n (pc' := 1817) rfl dL_law_1816 rfl ?_
  obtain ⟨uρ, uτ, uM, uA⟩ := id uR
  refine sw_V (M' := MX5_thrown) (d' := d - 1) (bc' := 0) (bs' := 0) (ci := 6) (as := []) dL_law_1817 w_1157 ok_X5_thrown (q_thrown uM) uM.ob rfl (by omega) (Nat.le_of_ble_eq_true rfl) (Nat.zero_le _) (Nat.zero_le _) (fun E h' n' _ z => det_x z) (det_k ?_)
  refine sw_iload (pc' := 1822) rfl dL_law_1820 rfl ?_
  refine sw_icmp_eq (pc' := 1825) (tgt := 1827) rfl dL_law_1822 (by decide +kernel) (fun c1822 => ?_) (fun c1822 => ?_)
  · refine sw_iload (pc' := 1829) rfl dL_law_1827 rfl ?_
    refine sw_if_ne (pc' := 1832) (tgt := 1845) rfl dL_law_1829 (by decide +kernel) (fun c1829 => ?_) (fun c1829 => ?_)
    · refine sw_goto (tgt := 3123) dL_law_1845 (by decide +kernel) ?_
      have J : LI L xs u un (opDrop σ (xs (i + 1))).2 (N + 12) := ⟨pR.frT (fun i hi => uF i (by omega) (by omega)), ⟨_, uR⟩, hT.fr (fun i hi => (uF i (by omega) (by omega)).trans (pF i (by omega) (by omega) (by omega))), iv_drop hV, ⟨_, _, (uF 158 (by omega) (by omega)).trans pO⟩, (uF 0 (by omega) (by omega)).trans ((pF 0 (by omega) (by omega) (by omega)).trans hs), by omega⟩
      exact SW.pick [2, 3, 4, 5, 6] rfl ((K u un _ (by omega) J).bud (by omega) (by omega))
    · refine sw_aload_n (pc' := 1833) rfl dL_law_1832 rfl ?_
      refine sw_getN (ci := 5) (k := 0) (pc' := 1836) rfl dL_law_1833 (by decide +kernel) v_347 ((uF 158 (by omega) (by omega)).trans pO) (by show 100 ≤ _; omega) rfl ?_
      refine sw_iload (pc' := 1838) rfl dL_law_1836 rfl ?_
      refine sw_i2l (pc' := 1839) rfl dL_law_1838 ?_
      refine sw_lcmp (pc' := 1840) rfl dL_law_1839 ?_
      refine sw_if_eq (pc' := 1843) (tgt := 1845) rfl dL_law_1840 (by decide +kernel) (fun c1840 => ?_) (fun c1840 => ?_)
      · refine sw_goto (tgt := 3123) dL_law_1845 (by decide +kernel) ?_
        have J : LI L xs u un (opDrop σ (xs (i + 1))).2 (N + 12) := ⟨pR.frT (fun i hi => uF i (by omega) (by omega)), ⟨_, uR⟩, hT.fr (fun i hi => (uF i (by omega) (by omega)).trans (pF i (by omega) (by omega) (by omega))), iv_drop hV, ⟨_, _, (uF 158 (by omega) (by omega)).trans pO⟩, (uF 0 (by omega) (by omega)).trans ((pF 0 (by omega) (by omega) (by omega)).trans hs), by omega⟩
        exact SW.pick [2, 3, 4, 5, 6] rfl ((K u un _ (by omega) J).bud (by omega) (by omega))
      · obtain ⟨v9, e9⟩ := ox_0 ox_drop c1829
        exact absurd (by rw [pv v9 e9, uv v9 e9]; exact lg_self _) c1840
  · exact absurd rfl c1822
theorem lc_23 {L : Nat} {xs : Nat → Int32} {h : AH} {n i N d bc bs : Nat} {σ : CS} {Post : ARes → AH → Nat → Prop} (hI : LI L xs h n σ N) (hN : N < 2 ^ 31) (hL : L ≤ 3072) (hi : i + 6 ≤ L) (hd : 20 ≤ d) (h1 : 380 ≤ bc) (h2 : 4500 ≤ bs) (K : ∀ (h' : AH) (n' : Nat) (σ' : CS), n ≤ n' → LI L xs h' n' σ' (N + 12) → SW SR0 ML_law d (bc - 380) (bs - 4500) 3123 [(4, .int (nI i)), (3, .ref 158), (2, .ref 135), (1, .ref 100), (0, .ref 0)] [] h' n' Post) : SW SR0 ML_law d bc bs 1848 [(4, .int (nI i)), (3, .ref 158), (2, .ref 135), (1, .ref 100), (0, .ref 0)] [] h n Post := by
  obtain ⟨hR, ⟨th, hQ⟩, hT, hV, ⟨w, s, hO⟩, hs, hn⟩ := hI
  refine sw_aload_n (pc' := 1849) rfl dL_law_1848 rfl ?_
  refine sw_aload_n (pc' := 1850) rfl dL_law_1849 rfl ?_
  refine sw_iload (pc' := 1852) rfl dL_law_1850 rfl ?_
  refine sw_iconst (pc' := 1853) (v := 1) rfl dL_law_1852 (by decide +kernel) ?_
  refine sw_iadd (pc' := 1854) rfl dL_law_1853 ?_
  rw [show (nI i) + 1 = nI (i + 1) from nI_add _ _]
  refine sw_iald (j := i + 1) (pc' := 1855) rfl dL_law_1854 hs rfl (by omega) (by omega) ?_
  refine sw_aload_n (pc' := 1856) rfl dL_law_1855 rfl ?_
  refine sw_iload (pc' := 1858) rfl dL_law_1856 rfl ?_
  refine sw_iconst (pc' := 1859) (v := 2) rfl dL_law_1858 (by decide +kernel) ?_
  refine sw_iadd (pc' := 1860) rfl dL_law_1859 ?_
  rw [show (nI i) + 2 = nI (i + 2) from nI_add _ _]
  refine sw_iald (j := i + 2) (pc' := 1861) rfl dL_law_1860 hs rfl (by omega) (by omega) ?_
  refine sw_aload_n (pc' := 1862) rfl dL_law_1861 rfl ?_
  refine sw_S (M' := ML_skip) (d' := d - 1) (bc' := 60) (bs' := 400) (as := [_, _, _, _]) dL_law_1862 w_978 ok_L_skip (L_skip hR hT hV hN hO hn (by omega) (Nat.le_refl _) (Nat.le_refl _)) (by omega) (Nat.le_of_ble_eq_true rfl) (by omega) (by omega) (fun E h' n' _ z => lpo_x z) (lpo_k (fun p pn pw ps pk pR pO pv pF => ?_))
  refine sw_istore (pc' := 1867) (lv' := [(5, _), (4, _), (3, _), (2, _), (1, _), (0, _)]) rfl dL_law_1865 (by decide +kernel) rfl ?_
  refine sw_aload_n (pc' := 1868) rfl dL_law_1867 rfl ?_
  refine sw_aload_n (pc' := 1869) rfl dL_law_1868 rfl ?_
  refine sw_iload (pc' := 1871) rfl dL_law_1869 rfl ?_
  refine sw_iconst (pc' := 1872) (v := 1) rfl dL_law_1871 (by decide +kernel) ?_
  refine sw_iadd (pc' := 1873) rfl dL_law_1872 ?_
  rw [show (nI i) + 1 = nI (i + 1) from nI_add _ _]
  refine sw_iald (j := i + 1) (pc' := 1874) rfl dL_law_1873 ((pF 0 (by omega) (by omega) (by omega)).trans hs) rfl (by omega) (by omega) ?_
  refine sw_aload_n (pc' := 1875) rfl dL_law_1874 rfl ?_
  refine sw_iload (pc' := 1877) rfl dL_law_1875 rfl ?_
  refine sw_iconst (pc' := 1878) (v := 2) rfl dL_law_1877 (by decide +kernel) ?_
  refine sw_iadd (pc' := 1879) rfl dL_law_1878 ?_
  rw [show (nI i) + 2 = nI (i + 2) from nI_add _ _]
  refine sw_iald (j := i + 2) (pc' := 1880) rfl dL_law_1879 ((pF 0 (by omega) (by omega) (by omega)).trans hs) rfl (by omega) (by omega) ?_
  have hQ2 := hQ.fr (fun i a b => pF i (by omega) (by omega) (by omega))
  obtain ⟨ρ, τ, hM, hA⟩ := id hQ2
  refine sw_V (M' := MX5_skip) (d' := d - 1) (bc' := 1) (bs' := 12) (ci := 6) (as := [_, _]) dL_law_1880 w_1383 ok_X5_skip (q_skip hQ2 (hV.iv hN) (by omega) (by omega) (Nat.le_refl _) (Nat.le_refl _)) hM.ob rfl (by omega) (Nat.le_of_ble_eq_true rfl) (by omega) (by omega) (fun E h' n' _ z => pmc_x z) (pmc_k ox_skip (fun u un ub uk uv uR uF => ?_))
  refine sw_istore (pc' := 1885) (lv' := [(6, _), (5, _), (4, _), (3, _), (2, _), (1, _), (0, _)]) rfl dL_law_1883 (by decide +kernel) rfl ?_
  refine sw_aload_n (pc' := 1886) rfl dL_law_1885 rfl ?_
  obtain ⟨uρ, uτ, uM, uA⟩ := id uR
  refine sw_V (M' := MX5_thrown) (d' := d - 1) (bc' := 0) (bs' := 0) (ci := 6) (as := []) dL_law_1886 w_1157 ok_X5_thrown (q_thrown uM) uM.ob rfl (by omega) (Nat.le_of_ble_eq_true rfl) (Nat.zero_le _) (Nat.zero_le _) (fun E h' n' _ z => det_x z) (det_k ?_)
  refine sw_iload (pc' := 1891) rfl dL_law_1889 rfl ?_
  refine sw_icmp_eq (pc' := 1894) (tgt := 1896) rfl dL_law_1891 (by decide +kernel) (fun c1891 => ?_) (fun c1891 => ?_)
  · refine sw_iload (pc' := 1898) rfl dL_law_1896 rfl ?_
    refine sw_if_ne (pc' := 1901) (tgt := 1914) rfl dL_law_1898 (by decide +kernel) (fun c1898 => ?_) (fun c1898 => ?_)
    · refine sw_goto (tgt := 3123) dL_law_1914 (by decide +kernel) ?_
      have J : LI L xs u un (opSkip σ (xs (i + 1)) (xs (i + 2))).2 (N + 12) := ⟨pR.frT (fun i hi => uF i (by omega) (by omega)), ⟨_, uR⟩, hT.fr (fun i hi => (uF i (by omega) (by omega)).trans (pF i (by omega) (by omega) (by omega))), iv_skip hV, ⟨_, _, (uF 158 (by omega) (by omega)).trans pO⟩, (uF 0 (by omega) (by omega)).trans ((pF 0 (by omega) (by omega) (by omega)).trans hs), by omega⟩
      exact SW.pick [2, 3, 4, 5, 6] rfl ((K u un _ (by omega) J).bud (by omega) (by omega))
    · refine sw_aload_n (pc' := 1902) rfl dL_law_1901 rfl ?_
      refine sw_getN (ci := 5) (k := 0) (pc' := 1905) rfl dL_law_1902 (by decide +kernel) v_347 ((uF 158 (by omega) (by omega)).trans pO) (by show 100 ≤ _; omega) rfl ?_
      refine sw_iload (pc' := 1907) rfl dL_law_1905 rfl ?_
      refine sw_i2l (pc' := 1908) rfl dL_law_1907 ?_
      refine sw_lcmp (pc' := 1909) rfl dL_law_1908 ?_
      refine sw_if_eq (pc' := 1912) (tgt := 1914) rfl dL_law_1909 (by decide +kernel) (fun c1909 => ?_) (fun c1909 => ?_)
      · refine sw_goto (tgt := 3123) dL_law_1914 (by decide +kernel) ?_
        have J : LI L xs u un (opSkip σ (xs (i + 1)) (xs (i + 2))).2 (N + 12) := ⟨pR.frT (fun i hi => uF i (by omega) (by omega)), ⟨_, uR⟩, hT.fr (fun i hi => (uF i (by omega) (by omega)).trans (pF i (by omega) (by omega) (by omega))), iv_skip hV, ⟨_, _, (uF 158 (by omega) (by omega)).trans pO⟩, (uF 0 (by omega) (by omega)).trans ((pF 0 (by omega) (by omega) (by omega)).trans hs), by omega⟩
        exact SW.pick [2, 3, 4, 5, 6] rfl ((K u un _ (by omega) J).bud (by omega) (by omega))
      · obtain ⟨v9, e9⟩ := ox_0 ox_skip c1898
        exact absurd (by rw [pv v9 e9, uv v9 e9]; exact lg_self _) c1909
  · exact absurd rfl c1891
theorem lc_24 {L : Nat} {xs : Nat → Int32} {h : AH} {n i N d bc bs : Nat} {σ : CS} {Post : ARes → AH → Nat → Prop} (hI : LI L xs h n σ N) (hN : N < 2 ^ 31) (hL : L ≤ 3072) (hi : i + 6 ≤ L) (hd : 20 ≤ d) (h1 : 380 ≤ bc) (h2 : 4500 ≤ bs) (K : ∀ (h' : AH) (n' : Nat) (σ' : CS), n ≤ n' → LI L xs h' n' σ' (N + 12) → SW SR0 ML_law d (bc - 380) (bs - 4500) 3123 [(4, .int (nI i)), (3, .ref 158), (2, .ref 135), (1, .ref 100), (0, .ref 0)] [] h' n' Post) : SW SR0 ML_law d bc bs 1917 [(4, .int (nI i)), (3, .ref 158), (2, .ref 135), (1, .ref 100), (0, .ref 0)] [] h n Post := by
  obtain ⟨hR, ⟨th, hQ⟩, hT, hV, ⟨w, s, hO⟩, hs, hn⟩ := hI
  refine sw_aload_n (pc' := 1918) rfl dL_law_1917 rfl ?_
  refine sw_aload_n (pc' := 1919) rfl dL_law_1918 rfl ?_
  refine sw_iload (pc' := 1921) rfl dL_law_1919 rfl ?_
  refine sw_iconst (pc' := 1922) (v := 1) rfl dL_law_1921 (by decide +kernel) ?_
  refine sw_iadd (pc' := 1923) rfl dL_law_1922 ?_
  rw [show (nI i) + 1 = nI (i + 1) from nI_add _ _]
  refine sw_iald (j := i + 1) (pc' := 1924) rfl dL_law_1923 hs rfl (by omega) (by omega) ?_
  refine sw_aload_n (pc' := 1925) rfl dL_law_1924 rfl ?_
  refine sw_iload (pc' := 1927) rfl dL_law_1925 rfl ?_
  refine sw_iconst (pc' := 1928) (v := 2) rfl dL_law_1927 (by decide +kernel) ?_
  refine sw_iadd (pc' := 1929) rfl dL_law_1928 ?_
  rw [show (nI i) + 2 = nI (i + 2) from nI_add _ _]
  refine sw_iald (j := i + 2) (pc' := 1930) rfl dL_law_1929 hs rfl (by omega) (by omega) ?_
  refine sw_aload_n (pc' := 1931) rfl dL_law_1930 rfl ?_
  refine sw_S (M' := ML_pourRest) (d' := d - 1) (bc' := 60) (bs' := 400) (as := [_, _, _, _]) dL_law_1931 w_985 ok_L_pourRest (L_pourRest hR hT hV hN hO hn (by omega) (Nat.le_refl _) (Nat.le_refl _)) (by omega) (Nat.le_of_ble_eq_true rfl) (by omega) (by omega) (fun E h' n' _ z => lpo_x z) (lpo_k (fun p pn pw ps pk pR pO pv pF => ?_))
  refine sw_istore (pc' := 1936) (lv' := [(5, _), (4, _), (3, _), (2, _), (1, _), (0, _)]) rfl dL_law_1934 (by decide +kernel) rfl ?_
  refine sw_aload_n (pc' := 1937) rfl dL_law_1936 rfl ?_
  refine sw_aload_n (pc' := 1938) rfl dL_law_1937 rfl ?_
  refine sw_iload (pc' := 1940) rfl dL_law_1938 rfl ?_
  refine sw_iconst (pc' := 1941) (v := 1) rfl dL_law_1940 (by decide +kernel) ?_
  refine sw_iadd (pc' := 1942) rfl dL_law_1941 ?_
  rw [show (nI i) + 1 = nI (i + 1) from nI_add _ _]
  refine sw_iald (j := i + 1) (pc' := 1943) rfl dL_law_1942 ((pF 0 (by omega) (by omega) (by omega)).trans hs) rfl (by omega) (by omega) ?_
  refine sw_aload_n (pc' := 1944) rfl dL_law_1943 rfl ?_
  refine sw_iload (pc' := 1946) rfl dL_law_1944 rfl ?_
  refine sw_iconst (pc' := 1947) (v := 2) rfl dL_law_1946 (by decide +kernel) ?_
  refine sw_iadd (pc' := 1948) rfl dL_law_1947 ?_
  rw [show (nI i) + 2 = nI (i + 2) from nI_add _ _]
  refine sw_iald (j := i + 2) (pc' := 1949) rfl dL_law_1948 ((pF 0 (by omega) (by omega) (by omega)).trans hs) rfl (by omega) (by omega) ?_
  have hQ2 := hQ.fr (fun i a b => pF i (by omega) (by omega) (by omega))
  obtain ⟨ρ, τ, hM, hA⟩ := id hQ2
  refine sw_V (M' := MX5_pourRest) (d' := d - 1) (bc' := 1) (bs' := 12) (ci := 6) (as := [_, _]) dL_law_1949 w_1387 ok_X5_pourRest (q_pourRest hQ2 (hV.iv hN) (by omega) (by omega) (Nat.le_refl _) (Nat.le_refl _)) hM.ob rfl (by omega) (Nat.le_of_ble_eq_true rfl) (by omega) (by omega) (fun E h' n' _ z => pmc_x z) (pmc_k ox_pourRest (fun u un ub uk uv uR uF => ?_))
  refine sw_istore (pc' := 1954) (lv' := [(6, _), (5, _), (4, _), (3, _), (2, _), (1, _), (0, _)]) rfl dL_law_1952 (by decide +kernel) rfl ?_
  refine sw_aload_n (pc' := 1955) rfl dL_law_1954 rfl ?_
  obtain ⟨uρ, uτ, uM, uA⟩ := id uR
  refine sw_V (M' := MX5_thrown) (d' := d - 1) (bc' := 0) (bs' := 0) (ci := 6) (as := []) dL_law_1955 w_1157 ok_X5_thrown (q_thrown uM) uM.ob rfl (by omega) (Nat.le_of_ble_eq_true rfl) (Nat.zero_le _) (Nat.zero_le _) (fun E h' n' _ z => det_x z) (det_k ?_)
  refine sw_iload (pc' := 1960) rfl dL_law_1958 rfl ?_
  refine sw_icmp_eq (pc' := 1963) (tgt := 1965) rfl dL_law_1960 (by decide +kernel) (fun c1960 => ?_) (fun c1960 => ?_)
  · refine sw_iload (pc' := 1967) rfl dL_law_1965 rfl ?_
    refine sw_if_ne (pc' := 1970) (tgt := 1983) rfl dL_law_1967 (by decide +kernel) (fun c1967 => ?_) (fun c1967 => ?_)
    · refine sw_goto (tgt := 3123) dL_law_1983 (by decide +kernel) ?_
      have J : LI L xs u un (opPourRest σ (xs (i + 1)) (xs (i + 2))).2 (N + 12) := ⟨pR.frT (fun i hi => uF i (by omega) (by omega)), ⟨_, uR⟩, hT.fr (fun i hi => (uF i (by omega) (by omega)).trans (pF i (by omega) (by omega) (by omega))), iv_pourRest hV hN, ⟨_, _, (uF 158 (by omega) (by omega)).trans pO⟩, (uF 0 (by omega) (by omega)).trans ((pF 0 (by omega) (by omega) (by omega)).trans hs), by omega⟩
      exact SW.pick [2, 3, 4, 5, 6] rfl ((K u un _ (by omega) J).bud (by omega) (by omega))
    · refine sw_aload_n (pc' := 1971) rfl dL_law_1970 rfl ?_
      refine sw_getN (ci := 5) (k := 0) (pc' := 1974) rfl dL_law_1971 (by decide +kernel) v_347 ((uF 158 (by omega) (by omega)).trans pO) (by show 100 ≤ _; omega) rfl ?_
      refine sw_iload (pc' := 1976) rfl dL_law_1974 rfl ?_
      refine sw_i2l (pc' := 1977) rfl dL_law_1976 ?_
      refine sw_lcmp (pc' := 1978) rfl dL_law_1977 ?_
      refine sw_if_eq (pc' := 1981) (tgt := 1983) rfl dL_law_1978 (by decide +kernel) (fun c1978 => ?_) (fun c1978 => ?_)
      · refine sw_goto (tgt := 3123) dL_law_1983 (by decide +kernel) ?_
        have J : LI L xs u un (opPourRest σ (xs (i + 1)) (xs (i + 2))).2 (N + 12) := ⟨pR.frT (fun i hi => uF i (by omega) (by omega)), ⟨_, uR⟩, hT.fr (fun i hi => (uF i (by omega) (by omega)).trans (pF i (by omega) (by omega) (by omega))), iv_pourRest hV hN, ⟨_, _, (uF 158 (by omega) (by omega)).trans pO⟩, (uF 0 (by omega) (by omega)).trans ((pF 0 (by omega) (by omega) (by omega)).trans hs), by omega⟩
        exact SW.pick [2, 3, 4, 5, 6] rfl ((K u un _ (by omega) J).bud (by omega) (by omega))
      · obtain ⟨v9, e9⟩ := ox_0 ox_pourRest c1967
        exact absurd (by rw [pv v9 e9, uv v9 e9]; exact lg_self _) c1978
  · exact absurd rfl c1960
theorem lc_25 {L : Nat} {xs : Nat → Int32} {h : AH} {n i N d bc bs : Nat} {σ : CS} {Post : ARes → AH → Nat → Prop} (hI : LI L xs h n σ N) (hN : N < 2 ^ 31) (hL : L ≤ 3072) (hi : i + 6 ≤ L) (hd : 20 ≤ d) (h1 : 380 ≤ bc) (h2 : 4500 ≤ bs) (K : ∀ (h' : AH) (n' : Nat) (σ' : CS), n ≤ n' → LI L xs h' n' σ' (N + 12) → SW SR0 ML_law d (bc - 380) (bs - 4500) 3123 [(4, .int (nI i)), (3, .ref 158), (2, .ref 135), (1, .ref 100), (0, .ref 0)] [] h' n' Post) : SW SR0 ML_law d bc bs 1986 [(4, .int (nI i)), (3, .ref 158), (2, .ref 135), (1, .ref 100), (0, .ref 0)] [] h n Post := by
  obtain ⟨hR, ⟨th, hQ⟩, hT, hV, ⟨w, s, hO⟩, hs, hn⟩ := hI
  refine sw_aload_n (pc' := 1987) rfl dL_law_1986 rfl ?_
  refine sw_aload_n (pc' := 1988) rfl dL_law_1987 rfl ?_
  refine sw_iload (pc' := 1990) rfl dL_law_1988 rfl ?_
  refine sw_iconst (pc' := 1991) (v := 1) rfl dL_law_1990 (by decide +kernel) ?_
  refine sw_iadd (pc' := 1992) rfl dL_law_1991 ?_
  rw [show (nI i) + 1 = nI (i + 1) from nI_add _ _]
  refine sw_iald (j := i + 1) (pc' := 1993) rfl dL_law_1992 hs rfl (by omega) (by omega) ?_
  refine sw_aload_n (pc' := 1994) rfl dL_law_1993 rfl ?_
  refine sw_iload (pc' := 1996) rfl dL_law_1994 rfl ?_
  refine sw_iconst (pc' := 1997) (v := 2) rfl dL_law_1996 (by decide +kernel) ?_
  refine sw_iadd (pc' := 1998) rfl dL_law_1997 ?_
  rw [show (nI i) + 2 = nI (i + 2) from nI_add _ _]
  refine sw_iald (j := i + 2) (pc' := 1999) rfl dL_law_1998 hs rfl (by omega) (by omega) ?_
  refine sw_aload_n (pc' := 2000) rfl dL_law_1999 rfl ?_
  refine sw_S (M' := ML_zip) (d' := d - 1) (bc' := 60) (bs' := 400) (as := [_, _, _, _]) dL_law_2000 w_992 ok_L_zip (L_zip hR hT hV hN hO hn (by omega) (Nat.le_refl _) (Nat.le_refl _)) (by omega) (Nat.le_of_ble_eq_true rfl) (by omega) (by omega) (fun E h' n' _ z => lpt_x z) (lpt_k (fun p pn pw ps pk pR pO pv pF => ?_))
  refine sw_istore (pc' := 2005) (lv' := [(5, _), (4, _), (3, _), (2, _), (1, _), (0, _)]) rfl dL_law_2003 (by decide +kernel) rfl ?_
  refine sw_aload_n (pc' := 2006) rfl dL_law_2005 rfl ?_
  refine sw_aload_n (pc' := 2007) rfl dL_law_2006 rfl ?_
  refine sw_iload (pc' := 2009) rfl dL_law_2007 rfl ?_
  refine sw_iconst (pc' := 2010) (v := 1) rfl dL_law_2009 (by decide +kernel) ?_
  refine sw_iadd (pc' := 2011) rfl dL_law_2010 ?_
  rw [show (nI i) + 1 = nI (i + 1) from nI_add _ _]
  refine sw_iald (j := i + 1) (pc' := 2012) rfl dL_law_2011 ((pF 0 (by omega) (by omega) (by omega)).trans hs) rfl (by omega) (by omega) ?_
  refine sw_aload_n (pc' := 2013) rfl dL_law_2012 rfl ?_
  refine sw_iload (pc' := 2015) rfl dL_law_2013 rfl ?_
  refine sw_iconst (pc' := 2016) (v := 2) rfl dL_law_2015 (by decide +kernel) ?_
  refine sw_iadd (pc' := 2017) rfl dL_law_2016 ?_
  rw [show (nI i) + 2 = nI (i + 2) from nI_add _ _]
  refine sw_iald (j := i + 2) (pc' := 2018) rfl dL_law_2017 ((pF 0 (by omega) (by omega) (by omega)).trans hs) rfl (by omega) (by omega) ?_
  have hQ2 := hQ.fr (fun i a b => pF i (by omega) (by omega) (by omega))
  obtain ⟨ρ, τ, hM, hA⟩ := id hQ2
  have pT := hT.fr (fun i hi => pF i (by omega) (by omega) (by omega))
  refine sw_V (M' := MX5_zip) (d' := d - 1) (bc' := 300) (bs' := 3400) (ci := 6) (as := [_, _]) dL_law_2018 w_1391 ok_X5_zip (q_zip hQ2 (hV.iv hN) (by omega) (by omega) (Nat.le_refl _) (Nat.le_refl _) pT hV hN) hM.ob rfl (by omega) (Nat.le_of_ble_eq_true rfl) (by omega) (by omega) (fun E h' n' _ z => ptc_x z) (ptl_k (fun u un ux uk uS uR uF => ?_))
  refine sw_astore (pc' := 2023) (lv' := [(6, _), (5, _), (4, _), (3, _), (2, _), (1, _), (0, _)]) rfl dL_law_2021 (by decide +kernel) rfl ?_
  refine sw_aload_n (pc' := 2024) rfl dL_law_2023 rfl ?_
  obtain ⟨uρ, uτ, uM, uA⟩ := id uR
  refine sw_V (M' := MX5_thrown) (d' := d - 1) (bc' := 0) (bs' := 0) (ci := 6) (as := []) dL_law_2024 w_1157 ok_X5_thrown (q_thrown uM) uM.ob rfl (by omega) (Nat.le_of_ble_eq_true rfl) (Nat.zero_le _) (Nat.zero_le _) (fun E h' n' _ z => det_x z) (det_k ?_)
  refine sw_iload (pc' := 2029) rfl dL_law_2027 rfl ?_
  refine sw_icmp_eq (pc' := 2032) (tgt := 2034) rfl dL_law_2029 (by decide +kernel) (fun c2029 => ?_) (fun c2029 => ?_)
  · refine sw_iload (pc' := 2036) rfl dL_law_2034 rfl ?_
    refine sw_if_ne (pc' := 2039) (tgt := 2053) rfl dL_law_2036 (by decide +kernel) (fun c2036 => ?_) (fun c2036 => ?_)
    · refine sw_goto (tgt := 3123) dL_law_2053 (by decide +kernel) ?_
      have J : LI L xs u un (opZip σ (xs (i + 1)) (xs (i + 2))).2 (N + 12) := ⟨pR.frT (fun i hi => uF i (by omega) (by omega)), ⟨_, uR⟩, hT.fr (fun i hi => (uF i (by omega) (by omega)).trans (pF i (by omega) (by omega) (by omega))), iv_zip hV, ⟨_, _, (uF 158 (by omega) (by omega)).trans pO⟩, (uF 0 (by omega) (by omega)).trans ((pF 0 (by omega) (by omega) (by omega)).trans hs), by omega⟩
      exact SW.pick [2, 3, 4, 5, 6] rfl ((K u un _ (by omega) J).bud (by omega) (by omega))
    · refine sw_aload_n (pc' := 2040) rfl dL_law_2039 rfl ?_
      refine sw_getN (ci := 5) (k := 1) (pc' := 2043) rfl dL_law_2040 (by decide +kernel) v_348 ((uF 158 (by omega) (by omega)).trans pO) (by show 100 ≤ _; omega) rfl ?_
      refine sw_aload (pc' := 2045) rfl dL_law_2043 rfl ?_
      have e9 : (opZip σ (xs (i + 1)) (xs (i + 2))).1 = ivN := ot_0 ot_zip c2036
      obtain ⟨x1, L1, es, hL1, S1⟩ := pv e9
      subst es
      obtain ⟨L2, hL2, S2⟩ := uS e9
      have S3 := S1.fr (fun i a b => uF i (by omega) (by omega)) uk
      obtain ⟨v1, f1, r1, ht1, -⟩ := id S3
      refine sw_V (M' := MJ0_equals_9ea2d) (d' := d - 1) (bc' := 0) (bs' := 0) (ci := 0) (as := [_]) dL_law_2045 w_1485 ok_J0_equals_9ea2d (j_equals S3.st S2.st (by omega) (by omega)) ht1 rfl (by omega) (Nat.le_of_ble_eq_true rfl) (Nat.zero_le _) (Nat.zero_le _) (fun E h' n' _ z => det_x z) (det_k ?_)
      refine sw_if_ne (pc' := 2051) (tgt := 2053) rfl dL_law_2048 (by decide +kernel) (fun c2048 => ?_) (fun c2048 => ?_)
      · refine sw_goto (tgt := 3123) dL_law_2053 (by decide +kernel) ?_
        have J : LI L xs u un (opZip σ (xs (i + 1)) (xs (i + 2))).2 (N + 12) := ⟨pR.frT (fun i hi => uF i (by omega) (by omega)), ⟨_, uR⟩, hT.fr (fun i hi => (uF i (by omega) (by omega)).trans (pF i (by omega) (by omega) (by omega))), iv_zip hV, ⟨_, _, (uF 158 (by omega) (by omega)).trans pO⟩, (uF 0 (by omega) (by omega)).trans ((pF 0 (by omega) (by omega) (by omega)).trans hs), by omega⟩
        exact SW.pick [2, 3, 4, 5, 6] rfl ((K u un _ (by omega) J).bud (by omega) (by omega))
      · exact absurd c2048 (by decide +kernel)
  · exact absurd rfl c2029
theorem lc_26 {L : Nat} {xs : Nat → Int32} {h : AH} {n i N d bc bs : Nat} {σ : CS} {Post : ARes → AH → Nat → Prop} (hI : LI L xs h n σ N) (hN : N < 2 ^ 31) (hL : L ≤ 3072) (hi : i + 6 ≤ L) (hd : 20 ≤ d) (h1 : 380 ≤ bc) (h2 : 4500 ≤ bs) (K : ∀ (h' : AH) (n' : Nat) (σ' : CS), n ≤ n' → LI L xs h' n' σ' (N + 12) → SW SR0 ML_law d (bc - 380) (bs - 4500) 3123 [(4, .int (nI i)), (3, .ref 158), (2, .ref 135), (1, .ref 100), (0, .ref 0)] [] h' n' Post) : SW SR0 ML_law d bc bs 2056 [(4, .int (nI i)), (3, .ref 158), (2, .ref 135), (1, .ref 100), (0, .ref 0)] [] h n Post := by
  obtain ⟨hR, ⟨th, hQ⟩, hT, hV, ⟨w, s, hO⟩, hs, hn⟩ := hI
  refine sw_aload_n (pc' := 2057) rfl dL_law_2056 rfl ?_
  refine sw_aload_n (pc' := 2058) rfl dL_law_2057 rfl ?_
  refine sw_iload (pc' := 2060) rfl dL_law_2058 rfl ?_
  refine sw_iconst (pc' := 2061) (v := 1) rfl dL_law_2060 (by decide +kernel) ?_
  refine sw_iadd (pc' := 2062) rfl dL_law_2061 ?_
  rw [show (nI i) + 1 = nI (i + 1) from nI_add _ _]
  refine sw_iald (j := i + 1) (pc' := 2063) rfl dL_law_2062 hs rfl (by omega) (by omega) ?_
  refine sw_aload_n (pc' := 2064) rfl dL_law_2063 rfl ?_
  refine sw_S (M' := ML_text) (d' := d - 1) (bc' := 60) (bs' := 400) (as := [_, _, _]) dL_law_2064 w_1000 ok_L_text (L_text hR hT hV hN hO hn (by omega) (Nat.le_refl _) (Nat.le_refl _)) (by omega) (Nat.le_of_ble_eq_true rfl) (by omega) (by omega) (fun E h' n' _ z => lpt_x z) (lpt_k (fun p pn pw ps pk pR pO pv pF => ?_))
  refine sw_istore (pc' := 2069) (lv' := [(5, _), (4, _), (3, _), (2, _), (1, _), (0, _)]) rfl dL_law_2067 (by decide +kernel) rfl ?_
  refine sw_aload_n (pc' := 2070) rfl dL_law_2069 rfl ?_
  refine sw_aload_n (pc' := 2071) rfl dL_law_2070 rfl ?_
  refine sw_iload (pc' := 2073) rfl dL_law_2071 rfl ?_
  refine sw_iconst (pc' := 2074) (v := 1) rfl dL_law_2073 (by decide +kernel) ?_
  refine sw_iadd (pc' := 2075) rfl dL_law_2074 ?_
  rw [show (nI i) + 1 = nI (i + 1) from nI_add _ _]
  refine sw_iald (j := i + 1) (pc' := 2076) rfl dL_law_2075 ((pF 0 (by omega) (by omega) (by omega)).trans hs) rfl (by omega) (by omega) ?_
  have hQ2 := hQ.fr (fun i a b => pF i (by omega) (by omega) (by omega))
  obtain ⟨ρ, τ, hM, hA⟩ := id hQ2
  have pT := hT.fr (fun i hi => pF i (by omega) (by omega) (by omega))
  refine sw_V (M' := MX5_text_) (d' := d - 1) (bc' := 200) (bs' := 2800) (ci := 6) (as := [_]) dL_law_2076 w_1400 ok_X5_text_ (q_text hQ2 (hV.iv hN) (by omega) (by omega) (Nat.le_refl _) (Nat.le_refl _) pT) hM.ob rfl (by omega) (Nat.le_of_ble_eq_true rfl) (by omega) (by omega) (fun E h' n' _ z => ptc_x z) (ptl_k (fun u un ux uk uS uR uF => ?_))
  refine sw_astore (pc' := 2081) (lv' := [(6, _), (5, _), (4, _), (3, _), (2, _), (1, _), (0, _)]) rfl dL_law_2079 (by decide +kernel) rfl ?_
  refine sw_aload_n (pc' := 2082) rfl dL_law_2081 rfl ?_
  obtain ⟨uρ, uτ, uM, uA⟩ := id uR
  refine sw_V (M' := MX5_thrown) (d' := d - 1) (bc' := 0) (bs' := 0) (ci := 6) (as := []) dL_law_2082 w_1157 ok_X5_thrown (q_thrown uM) uM.ob rfl (by omega) (Nat.le_of_ble_eq_true rfl) (Nat.zero_le _) (Nat.zero_le _) (fun E h' n' _ z => det_x z) (det_k ?_)
  refine sw_iload (pc' := 2087) rfl dL_law_2085 rfl ?_
  refine sw_icmp_eq (pc' := 2090) (tgt := 2092) rfl dL_law_2087 (by decide +kernel) (fun c2087 => ?_) (fun c2087 => ?_)
  · refine sw_iload (pc' := 2094) rfl dL_law_2092 rfl ?_
    refine sw_if_ne (pc' := 2097) (tgt := 2111) rfl dL_law_2094 (by decide +kernel) (fun c2094 => ?_) (fun c2094 => ?_)
    · refine sw_goto (tgt := 3123) dL_law_2111 (by decide +kernel) ?_
      have J : LI L xs u un (opText σ (xs (i + 1))).2 (N + 12) := ⟨pR.frT (fun i hi => uF i (by omega) (by omega)), ⟨_, uR⟩, hT.fr (fun i hi => (uF i (by omega) (by omega)).trans (pF i (by omega) (by omega) (by omega))), iv_text hV, ⟨_, _, (uF 158 (by omega) (by omega)).trans pO⟩, (uF 0 (by omega) (by omega)).trans ((pF 0 (by omega) (by omega) (by omega)).trans hs), by omega⟩
      exact SW.pick [2, 3, 4, 5, 6] rfl ((K u un _ (by omega) J).bud (by omega) (by omega))
    · refine sw_aload_n (pc' := 2098) rfl dL_law_2097 rfl ?_
      refine sw_getN (ci := 5) (k := 1) (pc' := 2101) rfl dL_law_2098 (by decide +kernel) v_348 ((uF 158 (by omega) (by omega)).trans pO) (by show 100 ≤ _; omega) rfl ?_
      refine sw_aload (pc' := 2103) rfl dL_law_2101 rfl ?_
      have e9 : (opText σ (xs (i + 1))).1 = ivN := ot_0 ot_text c2094
      obtain ⟨x1, L1, es, hL1, S1⟩ := pv e9
      subst es
      obtain ⟨L2, hL2, S2⟩ := uS e9
      have S3 := S1.fr (fun i a b => uF i (by omega) (by omega)) uk
      obtain ⟨v1, f1, r1, ht1, -⟩ := id S3
      refine sw_V (M' := MJ0_equals_9ea2d) (d' := d - 1) (bc' := 0) (bs' := 0) (ci := 0) (as := [_]) dL_law_2103 w_1485 ok_J0_equals_9ea2d (j_equals S3.st S2.st (by omega) (by omega)) ht1 rfl (by omega) (Nat.le_of_ble_eq_true rfl) (Nat.zero_le _) (Nat.zero_le _) (fun E h' n' _ z => det_x z) (det_k ?_)
      refine sw_if_ne (pc' := 2109) (tgt := 2111) rfl dL_law_2106 (by decide +kernel) (fun c2106 => ?_) (fun c2106 => ?_)
      · refine sw_goto (tgt := 3123) dL_law_2111 (by decide +kernel) ?_
        have J : LI L xs u un (opText σ (xs (i + 1))).2 (N + 12) := ⟨pR.frT (fun i hi => uF i (by omega) (by omega)), ⟨_, uR⟩, hT.fr (fun i hi => (uF i (by omega) (by omega)).trans (pF i (by omega) (by omega) (by omega))), iv_text hV, ⟨_, _, (uF 158 (by omega) (by omega)).trans pO⟩, (uF 0 (by omega) (by omega)).trans ((pF 0 (by omega) (by omega) (by omega)).trans hs), by omega⟩
        exact SW.pick [2, 3, 4, 5, 6] rfl ((K u un _ (by omega) J).bud (by omega) (by omega))
      · exact absurd c2106 (by decide +kernel)
  · exact absurd rfl c2087
theorem lc_27 {L : Nat} {xs : Nat → Int32} {h : AH} {n i N d bc bs : Nat} {σ : CS} {Post : ARes → AH → Nat → Prop} (hI : LI L xs h n σ N) (hN : N < 2 ^ 31) (hL : L ≤ 3072) (hi : i + 6 ≤ L) (hd : 20 ≤ d) (h1 : 380 ≤ bc) (h2 : 4500 ≤ bs) (K : ∀ (h' : AH) (n' : Nat) (σ' : CS), n ≤ n' → LI L xs h' n' σ' (N + 12) → SW SR0 ML_law d (bc - 380) (bs - 4500) 3123 [(4, .int (nI i)), (3, .ref 158), (2, .ref 135), (1, .ref 100), (0, .ref 0)] [] h' n' Post) : SW SR0 ML_law d bc bs 2114 [(4, .int (nI i)), (3, .ref 158), (2, .ref 135), (1, .ref 100), (0, .ref 0)] [] h n Post := by
  obtain ⟨hR, ⟨th, hQ⟩, hT, hV, ⟨w, s, hO⟩, hs, hn⟩ := hI
  refine sw_aload_n (pc' := 2115) rfl dL_law_2114 rfl ?_
  refine sw_aload_n (pc' := 2116) rfl dL_law_2115 rfl ?_
  refine sw_iload (pc' := 2118) rfl dL_law_2116 rfl ?_
  refine sw_iconst (pc' := 2119) (v := 1) rfl dL_law_2118 (by decide +kernel) ?_
  refine sw_iadd (pc' := 2120) rfl dL_law_2119 ?_
  rw [show (nI i) + 1 = nI (i + 1) from nI_add _ _]
  refine sw_iald (j := i + 1) (pc' := 2121) rfl dL_law_2120 hs rfl (by omega) (by omega) ?_
  refine sw_aload_n (pc' := 2122) rfl dL_law_2121 rfl ?_
  refine sw_S (M' := ML_list) (d' := d - 1) (bc' := 60) (bs' := 400) (as := [_, _, _]) dL_law_2122 w_1007 ok_L_list (L_list hR hT hV hN hO hn (by omega) (Nat.le_refl _) (Nat.le_refl _)) (by omega) (Nat.le_of_ble_eq_true rfl) (by omega) (by omega) (fun E h' n' _ z => lpt_x z) (lpt_k (fun p pn pw ps pk pR pO pv pF => ?_))
  refine sw_istore (pc' := 2127) (lv' := [(5, _), (4, _), (3, _), (2, _), (1, _), (0, _)]) rfl dL_law_2125 (by decide +kernel) rfl ?_
  refine sw_aload_n (pc' := 2128) rfl dL_law_2127 rfl ?_
  refine sw_aload_n (pc' := 2129) rfl dL_law_2128 rfl ?_
  refine sw_iload (pc' := 2131) rfl dL_law_2129 rfl ?_
  refine sw_iconst (pc' := 2132) (v := 1) rfl dL_law_2131 (by decide +kernel) ?_
  refine sw_iadd (pc' := 2133) rfl dL_law_2132 ?_
  rw [show (nI i) + 1 = nI (i + 1) from nI_add _ _]
  refine sw_iald (j := i + 1) (pc' := 2134) rfl dL_law_2133 ((pF 0 (by omega) (by omega) (by omega)).trans hs) rfl (by omega) (by omega) ?_
  have hQ2 := hQ.fr (fun i a b => pF i (by omega) (by omega) (by omega))
  obtain ⟨ρ, τ, hM, hA⟩ := id hQ2
  have pT := hT.fr (fun i hi => pF i (by omega) (by omega) (by omega))
  refine sw_V (M' := MX5_list) (d' := d - 1) (bc' := 200) (bs' := 2800) (ci := 6) (as := [_]) dL_law_2134 w_1404 ok_X5_list (q_list hQ2 (hV.iv hN) (by omega) (by omega) (Nat.le_refl _) (Nat.le_refl _) pT) hM.ob rfl (by omega) (Nat.le_of_ble_eq_true rfl) (by omega) (by omega) (fun E h' n' _ z => ptc_x z) (ptl_k (fun u un ux uk uS uR uF => ?_))
  refine sw_astore (pc' := 2139) (lv' := [(6, _), (5, _), (4, _), (3, _), (2, _), (1, _), (0, _)]) rfl dL_law_2137 (by decide +kernel) rfl ?_
  refine sw_aload_n (pc' := 2140) rfl dL_law_2139 rfl ?_
  obtain ⟨uρ, uτ, uM, uA⟩ := id uR
  refine sw_V (M' := MX5_thrown) (d' := d - 1) (bc' := 0) (bs' := 0) (ci := 6) (as := []) dL_law_2140 w_1157 ok_X5_thrown (q_thrown uM) uM.ob rfl (by omega) (Nat.le_of_ble_eq_true rfl) (Nat.zero_le _) (Nat.zero_le _) (fun E h' n' _ z => det_x z) (det_k ?_)
  refine sw_iload (pc' := 2145) rfl dL_law_2143 rfl ?_
  refine sw_icmp_eq (pc' := 2148) (tgt := 2150) rfl dL_law_2145 (by decide +kernel) (fun c2145 => ?_) (fun c2145 => ?_)
  · refine sw_iload (pc' := 2152) rfl dL_law_2150 rfl ?_
    refine sw_if_ne (pc' := 2155) (tgt := 2169) rfl dL_law_2152 (by decide +kernel) (fun c2152 => ?_) (fun c2152 => ?_)
    · refine sw_goto (tgt := 3123) dL_law_2169 (by decide +kernel) ?_
      have J : LI L xs u un (opText σ (xs (i + 1))).2 (N + 12) := ⟨pR.frT (fun i hi => uF i (by omega) (by omega)), ⟨_, uR⟩, hT.fr (fun i hi => (uF i (by omega) (by omega)).trans (pF i (by omega) (by omega) (by omega))), iv_text hV, ⟨_, _, (uF 158 (by omega) (by omega)).trans pO⟩, (uF 0 (by omega) (by omega)).trans ((pF 0 (by omega) (by omega) (by omega)).trans hs), by omega⟩
      exact SW.pick [2, 3, 4, 5, 6] rfl ((K u un _ (by omega) J).bud (by omega) (by omega))
    · refine sw_aload_n (pc' := 2156) rfl dL_law_2155 rfl ?_
      refine sw_getN (ci := 5) (k := 1) (pc' := 2159) rfl dL_law_2156 (by decide +kernel) v_348 ((uF 158 (by omega) (by omega)).trans pO) (by show 100 ≤ _; omega) rfl ?_
      refine sw_aload (pc' := 2161) rfl dL_law_2159 rfl ?_
      have e9 : (opText σ (xs (i + 1))).1 = ivN := ot_0 ot_list c2152
      obtain ⟨x1, L1, es, hL1, S1⟩ := pv e9
      subst es
      obtain ⟨L2, hL2, S2⟩ := uS e9
      have S3 := S1.fr (fun i a b => uF i (by omega) (by omega)) uk
      obtain ⟨v1, f1, r1, ht1, -⟩ := id S3
      refine sw_V (M' := MJ0_equals_9ea2d) (d' := d - 1) (bc' := 0) (bs' := 0) (ci := 0) (as := [_]) dL_law_2161 w_1485 ok_J0_equals_9ea2d (j_equals S3.st S2.st (by omega) (by omega)) ht1 rfl (by omega) (Nat.le_of_ble_eq_true rfl) (Nat.zero_le _) (Nat.zero_le _) (fun E h' n' _ z => det_x z) (det_k ?_)
      refine sw_if_ne (pc' := 2167) (tgt := 2169) rfl dL_law_2164 (by decide +kernel) (fun c2164 => ?_) (fun c2164 => ?_)
      · refine sw_goto (tgt := 3123) dL_law_2169 (by decide +kernel) ?_
        have J : LI L xs u un (opText σ (xs (i + 1))).2 (N + 12) := ⟨pR.frT (fun i hi => uF i (by omega) (by omega)), ⟨_, uR⟩, hT.fr (fun i hi => (uF i (by omega) (by omega)).trans (pF i (by omega) (by omega) (by omega))), iv_text hV, ⟨_, _, (uF 158 (by omega) (by omega)).trans pO⟩, (uF 0 (by omega) (by omega)).trans ((pF 0 (by omega) (by omega) (by omega)).trans hs), by omega⟩
        exact SW.pick [2, 3, 4, 5, 6] rfl ((K u un _ (by omega) J).bud (by omega) (by omega))
      · exact absurd c2164 (by decide +kernel)
  · exact absurd rfl c2145
theorem lc_28 {L : Nat} {xs : Nat → Int32} {h : AH} {n i N d bc bs : Nat} {σ : CS} {Post : ARes → AH → Nat → Prop} (hI : LI L xs h n σ N) (hN : N < 2 ^ 31) (hL : L ≤ 3072) (hi : i + 6 ≤ L) (hd : 20 ≤ d) (h1 : 380 ≤ bc) (h2 : 4500 ≤ bs) (K : ∀ (h' : AH) (n' : Nat) (σ' : CS), n ≤ n' → LI L xs h' n' σ' (N + 12) → SW SR0 ML_law d (bc - 380) (bs - 4500) 3123 [(4, .int (nI i)), (3, .ref 158), (2, .ref 135), (1, .ref 100), (0, .ref 0)] [] h' n' Post) : SW SR0 ML_law d bc bs 2172 [(4, .int (nI i)), (3, .ref 158), (2, .ref 135), (1, .ref 100), (0, .ref 0)] [] h n Post := by
  obtain ⟨hR, ⟨th, hQ⟩, hT, hV, ⟨w, s, hO⟩, hs, hn⟩ := hI
  refine sw_aload_n (pc' := 2173) rfl dL_law_2172 rfl ?_
  refine sw_aload_n (pc' := 2174) rfl dL_law_2173 rfl ?_
  refine sw_iload (pc' := 2176) rfl dL_law_2174 rfl ?_
  refine sw_iconst (pc' := 2177) (v := 1) rfl dL_law_2176 (by decide +kernel) ?_
  refine sw_iadd (pc' := 2178) rfl dL_law_2177 ?_
  rw [show (nI i) + 1 = nI (i + 1) from nI_add _ _]
  refine sw_iald (j := i + 1) (pc' := 2179) rfl dL_law_2178 hs rfl (by omega) (by omega) ?_
  refine sw_aload_n (pc' := 2180) rfl dL_law_2179 rfl ?_
  refine sw_S (M' := ML_size) (d' := d - 1) (bc' := 60) (bs' := 400) (as := [_, _, _]) dL_law_2180 w_1014 ok_L_size (L_size hR hT hV hN hO hn (by omega) (Nat.le_refl _) (Nat.le_refl _)) (by omega) (Nat.le_of_ble_eq_true rfl) (by omega) (by omega) (fun E h' n' _ z => lpo_x z) (lpo_k (fun p pn pw ps pk pR pO pv pF => ?_))
  refine sw_istore (pc' := 2185) (lv' := [(5, _), (4, _), (3, _), (2, _), (1, _), (0, _)]) rfl dL_law_2183 (by decide +kernel) rfl ?_
  refine sw_aload_n (pc' := 2186) rfl dL_law_2185 rfl ?_
  refine sw_aload_n (pc' := 2187) rfl dL_law_2186 rfl ?_
  refine sw_iload (pc' := 2189) rfl dL_law_2187 rfl ?_
  refine sw_iconst (pc' := 2190) (v := 1) rfl dL_law_2189 (by decide +kernel) ?_
  refine sw_iadd (pc' := 2191) rfl dL_law_2190 ?_
  rw [show (nI i) + 1 = nI (i + 1) from nI_add _ _]
  refine sw_iald (j := i + 1) (pc' := 2192) rfl dL_law_2191 ((pF 0 (by omega) (by omega) (by omega)).trans hs) rfl (by omega) (by omega) ?_
  have hQ2 := hQ.fr (fun i a b => pF i (by omega) (by omega) (by omega))
  obtain ⟨ρ, τ, hM, hA⟩ := id hQ2
  refine sw_V (M' := MX5_size) (d' := d - 1) (bc' := 1) (bs' := 12) (ci := 6) (as := [_]) dL_law_2192 w_1409 ok_X5_size (q_size hQ2 (hV.iv hN) (by omega) (by omega) (Nat.le_refl _) (Nat.le_refl _)) hM.ob rfl (by omega) (Nat.le_of_ble_eq_true rfl) (by omega) (by omega) (fun E h' n' _ z => pmc_x z) (pmc_k ox_size (fun u un ub uk uv uR uF => ?_))
  refine sw_istore (pc' := 2197) (lv' := [(6, _), (5, _), (4, _), (3, _), (2, _), (1, _), (0, _)]) rfl dL_law_2195 (by decide +kernel) rfl ?_
  refine sw_aload_n (pc' := 2198) rfl dL_law_2197 rfl ?_
  obtain ⟨uρ, uτ, uM, uA⟩ := id uR
  refine sw_V (M' := MX5_thrown) (d' := d - 1) (bc' := 0) (bs' := 0) (ci := 6) (as := []) dL_law_2198 w_1157 ok_X5_thrown (q_thrown uM) uM.ob rfl (by omega) (Nat.le_of_ble_eq_true rfl) (Nat.zero_le _) (Nat.zero_le _) (fun E h' n' _ z => det_x z) (det_k ?_)
  refine sw_iload (pc' := 2203) rfl dL_law_2201 rfl ?_
  refine sw_icmp_eq (pc' := 2206) (tgt := 2208) rfl dL_law_2203 (by decide +kernel) (fun c2203 => ?_) (fun c2203 => ?_)
  · refine sw_iload (pc' := 2210) rfl dL_law_2208 rfl ?_
    refine sw_if_ne (pc' := 2213) (tgt := 2226) rfl dL_law_2210 (by decide +kernel) (fun c2210 => ?_) (fun c2210 => ?_)
    · refine sw_goto (tgt := 3123) dL_law_2226 (by decide +kernel) ?_
      have J : LI L xs u un (opSize σ (xs (i + 1))).2 (N + 12) := ⟨pR.frT (fun i hi => uF i (by omega) (by omega)), ⟨_, uR⟩, hT.fr (fun i hi => (uF i (by omega) (by omega)).trans (pF i (by omega) (by omega) (by omega))), iv_size hV, ⟨_, _, (uF 158 (by omega) (by omega)).trans pO⟩, (uF 0 (by omega) (by omega)).trans ((pF 0 (by omega) (by omega) (by omega)).trans hs), by omega⟩
      exact SW.pick [2, 3, 4, 5, 6] rfl ((K u un _ (by omega) J).bud (by omega) (by omega))
    · refine sw_aload_n (pc' := 2214) rfl dL_law_2213 rfl ?_
      refine sw_getN (ci := 5) (k := 0) (pc' := 2217) rfl dL_law_2214 (by decide +kernel) v_347 ((uF 158 (by omega) (by omega)).trans pO) (by show 100 ≤ _; omega) rfl ?_
      refine sw_iload (pc' := 2219) rfl dL_law_2217 rfl ?_
      refine sw_i2l (pc' := 2220) rfl dL_law_2219 ?_
      refine sw_lcmp (pc' := 2221) rfl dL_law_2220 ?_
      refine sw_if_eq (pc' := 2224) (tgt := 2226) rfl dL_law_2221 (by decide +kernel) (fun c2221 => ?_) (fun c2221 => ?_)
      · refine sw_goto (tgt := 3123) dL_law_2226 (by decide +kernel) ?_
        have J : LI L xs u un (opSize σ (xs (i + 1))).2 (N + 12) := ⟨pR.frT (fun i hi => uF i (by omega) (by omega)), ⟨_, uR⟩, hT.fr (fun i hi => (uF i (by omega) (by omega)).trans (pF i (by omega) (by omega) (by omega))), iv_size hV, ⟨_, _, (uF 158 (by omega) (by omega)).trans pO⟩, (uF 0 (by omega) (by omega)).trans ((pF 0 (by omega) (by omega) (by omega)).trans hs), by omega⟩
        exact SW.pick [2, 3, 4, 5, 6] rfl ((K u un _ (by omega) J).bud (by omega) (by omega))
      · obtain ⟨v9, e9⟩ := ox_0 ox_size c2210
        exact absurd (by rw [pv v9 e9, uv v9 e9]; exact lg_self _) c2221
  · exact absurd rfl c2203
theorem lc_29 {L : Nat} {xs : Nat → Int32} {h : AH} {n i N d bc bs : Nat} {σ : CS} {Post : ARes → AH → Nat → Prop} (hI : LI L xs h n σ N) (hN : N < 2 ^ 31) (hL : L ≤ 3072) (hi : i + 6 ≤ L) (hd : 20 ≤ d) (h1 : 380 ≤ bc) (h2 : 4500 ≤ bs) (K : ∀ (h' : AH) (n' : Nat) (σ' : CS), n ≤ n' → LI L xs h' n' σ' (N + 12) → SW SR0 ML_law d (bc - 380) (bs - 4500) 3123 [(4, .int (nI i)), (3, .ref 158), (2, .ref 135), (1, .ref 100), (0, .ref 0)] [] h' n' Post) : SW SR0 ML_law d bc bs 2229 [(4, .int (nI i)), (3, .ref 158), (2, .ref 135), (1, .ref 100), (0, .ref 0)] [] h n Post := by
  obtain ⟨hR, ⟨th, hQ⟩, hT, hV, ⟨w, s, hO⟩, hs, hn⟩ := hI
  refine sw_aload_n (pc' := 2230) rfl dL_law_2229 rfl ?_
  refine sw_aload_n (pc' := 2231) rfl dL_law_2230 rfl ?_
  refine sw_iload (pc' := 2233) rfl dL_law_2231 rfl ?_
  refine sw_iconst (pc' := 2234) (v := 1) rfl dL_law_2233 (by decide +kernel) ?_
  refine sw_iadd (pc' := 2235) rfl dL_law_2234 ?_
  rw [show (nI i) + 1 = nI (i + 1) from nI_add _ _]
  refine sw_iald (j := i + 1) (pc' := 2236) rfl dL_law_2235 hs rfl (by omega) (by omega) ?_
  refine sw_aload_n (pc' := 2237) rfl dL_law_2236 rfl ?_
  refine sw_S (M' := ML_isEmpty) (d' := d - 1) (bc' := 60) (bs' := 400) (as := [_, _, _]) dL_law_2237 w_1021 ok_L_isEmpty (L_isEmpty hR hT hV hN hO hn (by omega) (Nat.le_refl _) (Nat.le_refl _)) (by omega) (Nat.le_of_ble_eq_true rfl) (by omega) (by omega) (fun E h' n' _ z => lpo_x z) (lpo_k (fun p pn pw ps pk pR pO pv pF => ?_))
  refine sw_istore (pc' := 2242) (lv' := [(5, _), (4, _), (3, _), (2, _), (1, _), (0, _)]) rfl dL_law_2240 (by decide +kernel) rfl ?_
  refine sw_aload_n (pc' := 2243) rfl dL_law_2242 rfl ?_
  refine sw_aload_n (pc' := 2244) rfl dL_law_2243 rfl ?_
  refine sw_iload (pc' := 2246) rfl dL_law_2244 rfl ?_
  refine sw_iconst (pc' := 2247) (v := 1) rfl dL_law_2246 (by decide +kernel) ?_
  refine sw_iadd (pc' := 2248) rfl dL_law_2247 ?_
  rw [show (nI i) + 1 = nI (i + 1) from nI_add _ _]
  refine sw_iald (j := i + 1) (pc' := 2249) rfl dL_law_2248 ((pF 0 (by omega) (by omega) (by omega)).trans hs) rfl (by omega) (by omega) ?_
  have hQ2 := hQ.fr (fun i a b => pF i (by omega) (by omega) (by omega))
  obtain ⟨ρ, τ, hM, hA⟩ := id hQ2
  refine sw_V (M' := MX5_isEmpty) (d' := d - 1) (bc' := 1) (bs' := 12) (ci := 6) (as := [_]) dL_law_2249 w_1413 ok_X5_isEmpty (q_isEmpty hQ2 (hV.iv hN) (by omega) (by omega) (Nat.le_refl _) (Nat.le_refl _)) hM.ob rfl (by omega) (Nat.le_of_ble_eq_true rfl) (by omega) (by omega) (fun E h' n' _ z => pmc_x z) (pmc_k ox_isEmpty (fun u un ub uk uv uR uF => ?_))
  refine sw_istore (pc' := 2254) (lv' := [(6, _), (5, _), (4, _), (3, _), (2, _), (1, _), (0, _)]) rfl dL_law_2252 (by decide +kernel) rfl ?_
  refine sw_aload_n (pc' := 2255) rfl dL_law_2254 rfl ?_
  obtain ⟨uρ, uτ, uM, uA⟩ := id uR
  refine sw_V (M' := MX5_thrown) (d' := d - 1) (bc' := 0) (bs' := 0) (ci := 6) (as := []) dL_law_2255 w_1157 ok_X5_thrown (q_thrown uM) uM.ob rfl (by omega) (Nat.le_of_ble_eq_true rfl) (Nat.zero_le _) (Nat.zero_le _) (fun E h' n' _ z => det_x z) (det_k ?_)
  refine sw_iload (pc' := 2260) rfl dL_law_2258 rfl ?_
  refine sw_icmp_eq (pc' := 2263) (tgt := 2265) rfl dL_law_2260 (by decide +kernel) (fun c2260 => ?_) (fun c2260 => ?_)
  · refine sw_iload (pc' := 2267) rfl dL_law_2265 rfl ?_
    refine sw_if_ne (pc' := 2270) (tgt := 2290) rfl dL_law_2267 (by decide +kernel) (fun c2267 => ?_) (fun c2267 => ?_)
    · refine sw_goto (tgt := 3123) dL_law_2290 (by decide +kernel) ?_
      have J : LI L xs u un (opIsEmpty σ (xs (i + 1))).2 (N + 12) := ⟨pR.frT (fun i hi => uF i (by omega) (by omega)), ⟨_, uR⟩, hT.fr (fun i hi => (uF i (by omega) (by omega)).trans (pF i (by omega) (by omega) (by omega))), iv_isEmpty hV, ⟨_, _, (uF 158 (by omega) (by omega)).trans pO⟩, (uF 0 (by omega) (by omega)).trans ((pF 0 (by omega) (by omega) (by omega)).trans hs), by omega⟩
      exact SW.pick [2, 3, 4, 5, 6] rfl ((K u un _ (by omega) J).bud (by omega) (by omega))
    · refine sw_aload_n (pc' := 2271) rfl dL_law_2270 rfl ?_
      refine sw_getN (ci := 5) (k := 0) (pc' := 2274) rfl dL_law_2271 (by decide +kernel) v_347 ((uF 158 (by omega) (by omega)).trans pO) (by show 100 ≤ _; omega) rfl ?_
      refine sw_iload (pc' := 2276) rfl dL_law_2274 rfl ?_
      refine sw_if_eq (pc' := 2279) (tgt := 2283) rfl dL_law_2276 (by decide +kernel) (fun c2276 => ?_) (fun c2276 => ?_)
      · refine sw_lconst (pc' := 2284) (v := 0) rfl dL_law_2283 (by decide +kernel) ?_
        refine sw_lcmp (pc' := 2285) rfl dL_law_2284 ?_
        refine sw_if_eq (pc' := 2288) (tgt := 2290) rfl dL_law_2285 (by decide +kernel) (fun c2285 => ?_) (fun c2285 => ?_)
        · refine sw_goto (tgt := 3123) dL_law_2290 (by decide +kernel) ?_
          have J : LI L xs u un (opIsEmpty σ (xs (i + 1))).2 (N + 12) := ⟨pR.frT (fun i hi => uF i (by omega) (by omega)), ⟨_, uR⟩, hT.fr (fun i hi => (uF i (by omega) (by omega)).trans (pF i (by omega) (by omega) (by omega))), iv_isEmpty hV, ⟨_, _, (uF 158 (by omega) (by omega)).trans pO⟩, (uF 0 (by omega) (by omega)).trans ((pF 0 (by omega) (by omega) (by omega)).trans hs), by omega⟩
          exact SW.pick [2, 3, 4, 5, 6] rfl ((K u un _ (by omega) J).bud (by omega) (by omega))
        · obtain ⟨v9, e9⟩ := ox_0 ox_isEmpty c2267
          have e8 := uv v9 e9
          exact absurd (by rw [pv v9 e9, ← e8, c2276]; decide) c2285
      · refine sw_lconst (pc' := 2280) (v := 1) rfl dL_law_2279 (by decide +kernel) ?_
        refine sw_goto (tgt := 2284) dL_law_2280 (by decide +kernel) ?_
        refine sw_lcmp (pc' := 2285) rfl dL_law_2284 ?_
        refine sw_if_eq (pc' := 2288) (tgt := 2290) rfl dL_law_2285 (by decide +kernel) (fun c2285 => ?_) (fun c2285 => ?_)
        · refine sw_goto (tgt := 3123) dL_law_2290 (by decide +kernel) ?_
          have J : LI L xs u un (opIsEmpty σ (xs (i + 1))).2 (N + 12) := ⟨pR.frT (fun i hi => uF i (by omega) (by omega)), ⟨_, uR⟩, hT.fr (fun i hi => (uF i (by omega) (by omega)).trans (pF i (by omega) (by omega) (by omega))), iv_isEmpty hV, ⟨_, _, (uF 158 (by omega) (by omega)).trans pO⟩, (uF 0 (by omega) (by omega)).trans ((pF 0 (by omega) (by omega) (by omega)).trans hs), by omega⟩
          exact SW.pick [2, 3, 4, 5, 6] rfl ((K u un _ (by omega) J).bud (by omega) (by omega))
        · obtain ⟨v9, e9⟩ := ox_0 ox_isEmpty c2267
          have e8 := uv v9 e9
          exact (bo_isEmpty e9).elim (fun e => absurd (e8.trans e) c2276) (fun e => absurd (by rw [pv v9 e9, e]; decide) c2285)
  · exact absurd rfl c2260
theorem lc_30 {L : Nat} {xs : Nat → Int32} {h : AH} {n i N d bc bs : Nat} {σ : CS} {Post : ARes → AH → Nat → Prop} (hI : LI L xs h n σ N) (hN : N < 2 ^ 31) (hL : L ≤ 3072) (hi : i + 6 ≤ L) (hd : 20 ≤ d) (h1 : 380 ≤ bc) (h2 : 4500 ≤ bs) (K : ∀ (h' : AH) (n' : Nat) (σ' : CS), n ≤ n' → LI L xs h' n' σ' (N + 12) → SW SR0 ML_law d (bc - 380) (bs - 4500) 3123 [(4, .int (nI i)), (3, .ref 158), (2, .ref 135), (1, .ref 100), (0, .ref 0)] [] h' n' Post) : SW SR0 ML_law d bc bs 2293 [(4, .int (nI i)), (3, .ref 158), (2, .ref 135), (1, .ref 100), (0, .ref 0)] [] h n Post := by
  obtain ⟨hR, ⟨th, hQ⟩, hT, hV, ⟨w, s, hO⟩, hs, hn⟩ := hI
  refine sw_aload_n (pc' := 2294) rfl dL_law_2293 rfl ?_
  refine sw_aload_n (pc' := 2295) rfl dL_law_2294 rfl ?_
  refine sw_iload (pc' := 2297) rfl dL_law_2295 rfl ?_
  refine sw_iconst (pc' := 2298) (v := 1) rfl dL_law_2297 (by decide +kernel) ?_
  refine sw_iadd (pc' := 2299) rfl dL_law_2298 ?_
  rw [show (nI i) + 1 = nI (i + 1) from nI_add _ _]
  refine sw_iald (j := i + 1) (pc' := 2300) rfl dL_law_2299 hs rfl (by omega) (by omega) ?_
  refine sw_aload_n (pc' := 2301) rfl dL_law_2300 rfl ?_
  refine sw_iload (pc' := 2303) rfl dL_law_2301 rfl ?_
  refine sw_iconst (pc' := 2304) (v := 2) rfl dL_law_2303 (by decide +kernel) ?_
  refine sw_iadd (pc' := 2305) rfl dL_law_2304 ?_
  rw [show (nI i) + 2 = nI (i + 2) from nI_add _ _]
  refine sw_iald (j := i + 2) (pc' := 2306) rfl dL_law_2305 hs rfl (by omega) (by omega) ?_
  refine sw_aload_n (pc' := 2307) rfl dL_law_2306 rfl ?_
  refine sw_S (M' := ML_has) (d' := d - 1) (bc' := 60) (bs' := 400) (as := [_, _, _, _]) dL_law_2307 w_1028 ok_L_has (L_has hR hT hV hN hO hn (by omega) (Nat.le_refl _) (Nat.le_refl _)) (by omega) (Nat.le_of_ble_eq_true rfl) (by omega) (by omega) (fun E h' n' _ z => lpo_x z) (lpo_k (fun p pn pw ps pk pR pO pv pF => ?_))
  refine sw_istore (pc' := 2312) (lv' := [(5, _), (4, _), (3, _), (2, _), (1, _), (0, _)]) rfl dL_law_2310 (by decide +kernel) rfl ?_
  refine sw_aload_n (pc' := 2313) rfl dL_law_2312 rfl ?_
  refine sw_aload_n (pc' := 2314) rfl dL_law_2313 rfl ?_
  refine sw_iload (pc' := 2316) rfl dL_law_2314 rfl ?_
  refine sw_iconst (pc' := 2317) (v := 1) rfl dL_law_2316 (by decide +kernel) ?_
  refine sw_iadd (pc' := 2318) rfl dL_law_2317 ?_
  rw [show (nI i) + 1 = nI (i + 1) from nI_add _ _]
  refine sw_iald (j := i + 1) (pc' := 2319) rfl dL_law_2318 ((pF 0 (by omega) (by omega) (by omega)).trans hs) rfl (by omega) (by omega) ?_
  refine sw_aload_n (pc' := 2320) rfl dL_law_2319 rfl ?_
  refine sw_iload (pc' := 2322) rfl dL_law_2320 rfl ?_
  refine sw_iconst (pc' := 2323) (v := 2) rfl dL_law_2322 (by decide +kernel) ?_
  refine sw_iadd (pc' := 2324) rfl dL_law_2323 ?_
  rw [show (nI i) + 2 = nI (i + 2) from nI_add _ _]
  refine sw_iald (j := i + 2) (pc' := 2325) rfl dL_law_2324 ((pF 0 (by omega) (by omega) (by omega)).trans hs) rfl (by omega) (by omega) ?_
  have hQ2 := hQ.fr (fun i a b => pF i (by omega) (by omega) (by omega))
  obtain ⟨ρ, τ, hM, hA⟩ := id hQ2
  refine sw_V (M' := MX5_has) (d' := d - 1) (bc' := 1) (bs' := 12) (ci := 6) (as := [_, _]) dL_law_2325 w_1417 ok_X5_has (q_has hQ2 (hV.iv hN) (by omega) (by omega) (Nat.le_refl _) (Nat.le_refl _)) hM.ob rfl (by omega) (Nat.le_of_ble_eq_true rfl) (by omega) (by omega) (fun E h' n' _ z => pmc_x z) (pmc_k ox_has (fun u un ub uk uv uR uF => ?_))
  refine sw_istore (pc' := 2330) (lv' := [(6, _), (5, _), (4, _), (3, _), (2, _), (1, _), (0, _)]) rfl dL_law_2328 (by decide +kernel) rfl ?_
  refine sw_aload_n (pc' := 2331) rfl dL_law_2330 rfl ?_
  obtain ⟨uρ, uτ, uM, uA⟩ := id uR
  refine sw_V (M' := MX5_thrown) (d' := d - 1) (bc' := 0) (bs' := 0) (ci := 6) (as := []) dL_law_2331 w_1157 ok_X5_thrown (q_thrown uM) uM.ob rfl (by omega) (Nat.le_of_ble_eq_true rfl) (Nat.zero_le _) (Nat.zero_le _) (fun E h' n' _ z => det_x z) (det_k ?_)
  refine sw_iload (pc' := 2336) rfl dL_law_2334 rfl ?_
  refine sw_icmp_eq (pc' := 2339) (tgt := 2341) rfl dL_law_2336 (by decide +kernel) (fun c2336 => ?_) (fun c2336 => ?_)
  · refine sw_iload (pc' := 2343) rfl dL_law_2341 rfl ?_
    refine sw_if_ne (pc' := 2346) (tgt := 2359) rfl dL_law_2343 (by decide +kernel) (fun c2343 => ?_) (fun c2343 => ?_)
    · refine sw_goto (tgt := 3123) dL_law_2359 (by decide +kernel) ?_
      have J : LI L xs u un (opHas σ (xs (i + 1)) (xs (i + 2))).2 (N + 12) := ⟨pR.frT (fun i hi => uF i (by omega) (by omega)), ⟨_, uR⟩, hT.fr (fun i hi => (uF i (by omega) (by omega)).trans (pF i (by omega) (by omega) (by omega))), iv_has hV, ⟨_, _, (uF 158 (by omega) (by omega)).trans pO⟩, (uF 0 (by omega) (by omega)).trans ((pF 0 (by omega) (by omega) (by omega)).trans hs), by omega⟩
      exact SW.pick [2, 3, 4, 5, 6] rfl ((K u un _ (by omega) J).bud (by omega) (by omega))
    · refine sw_aload_n (pc' := 2347) rfl dL_law_2346 rfl ?_
      refine sw_getN (ci := 5) (k := 0) (pc' := 2350) rfl dL_law_2347 (by decide +kernel) v_347 ((uF 158 (by omega) (by omega)).trans pO) (by show 100 ≤ _; omega) rfl ?_
      refine sw_iload (pc' := 2352) rfl dL_law_2350 rfl ?_
      refine sw_i2l (pc' := 2353) rfl dL_law_2352 ?_
      refine sw_lcmp (pc' := 2354) rfl dL_law_2353 ?_
      refine sw_if_eq (pc' := 2357) (tgt := 2359) rfl dL_law_2354 (by decide +kernel) (fun c2354 => ?_) (fun c2354 => ?_)
      · refine sw_goto (tgt := 3123) dL_law_2359 (by decide +kernel) ?_
        have J : LI L xs u un (opHas σ (xs (i + 1)) (xs (i + 2))).2 (N + 12) := ⟨pR.frT (fun i hi => uF i (by omega) (by omega)), ⟨_, uR⟩, hT.fr (fun i hi => (uF i (by omega) (by omega)).trans (pF i (by omega) (by omega) (by omega))), iv_has hV, ⟨_, _, (uF 158 (by omega) (by omega)).trans pO⟩, (uF 0 (by omega) (by omega)).trans ((pF 0 (by omega) (by omega) (by omega)).trans hs), by omega⟩
        exact SW.pick [2, 3, 4, 5, 6] rfl ((K u un _ (by omega) J).bud (by omega) (by omega))
      · obtain ⟨v9, e9⟩ := ox_0 ox_has c2343
        exact absurd (by rw [pv v9 e9, uv v9 e9]; exact lg_self _) c2354
  · exact absurd rfl c2336
theorem lc_31 {L : Nat} {xs : Nat → Int32} {h : AH} {n i N d bc bs : Nat} {σ : CS} {Post : ARes → AH → Nat → Prop} (hI : LI L xs h n σ N) (hN : N < 2 ^ 31) (hL : L ≤ 3072) (hi : i + 6 ≤ L) (hd : 20 ≤ d) (h1 : 380 ≤ bc) (h2 : 4500 ≤ bs) (K : ∀ (h' : AH) (n' : Nat) (σ' : CS), n ≤ n' → LI L xs h' n' σ' (N + 12) → SW SR0 ML_law d (bc - 380) (bs - 4500) 3123 [(4, .int (nI i)), (3, .ref 158), (2, .ref 135), (1, .ref 100), (0, .ref 0)] [] h' n' Post) : SW SR0 ML_law d bc bs 2362 [(4, .int (nI i)), (3, .ref 158), (2, .ref 135), (1, .ref 100), (0, .ref 0)] [] h n Post := by
  obtain ⟨hR, ⟨th, hQ⟩, hT, hV, ⟨w, s, hO⟩, hs, hn⟩ := hI
  refine sw_aload_n (pc' := 2363) rfl dL_law_2362 rfl ?_
  refine sw_aload_n (pc' := 2364) rfl dL_law_2363 rfl ?_
  refine sw_iload (pc' := 2366) rfl dL_law_2364 rfl ?_
  refine sw_iconst (pc' := 2367) (v := 1) rfl dL_law_2366 (by decide +kernel) ?_
  refine sw_iadd (pc' := 2368) rfl dL_law_2367 ?_
  rw [show (nI i) + 1 = nI (i + 1) from nI_add _ _]
  refine sw_iald (j := i + 1) (pc' := 2369) rfl dL_law_2368 hs rfl (by omega) (by omega) ?_
  refine sw_aload_n (pc' := 2370) rfl dL_law_2369 rfl ?_
  refine sw_iload (pc' := 2372) rfl dL_law_2370 rfl ?_
  refine sw_iconst (pc' := 2373) (v := 2) rfl dL_law_2372 (by decide +kernel) ?_
  refine sw_iadd (pc' := 2374) rfl dL_law_2373 ?_
  rw [show (nI i) + 2 = nI (i + 2) from nI_add _ _]
  refine sw_iald (j := i + 2) (pc' := 2375) rfl dL_law_2374 hs rfl (by omega) (by omega) ?_
  refine sw_aload_n (pc' := 2376) rfl dL_law_2375 rfl ?_
  refine sw_S (M' := ML_often) (d' := d - 1) (bc' := 60) (bs' := 400) (as := [_, _, _, _]) dL_law_2376 w_1035 ok_L_often (L_often hR hT hV hN hO hn (by omega) (Nat.le_refl _) (Nat.le_refl _)) (by omega) (Nat.le_of_ble_eq_true rfl) (by omega) (by omega) (fun E h' n' _ z => lpo_x z) (lpo_k (fun p pn pw ps pk pR pO pv pF => ?_))
  refine sw_istore (pc' := 2381) (lv' := [(5, _), (4, _), (3, _), (2, _), (1, _), (0, _)]) rfl dL_law_2379 (by decide +kernel) rfl ?_
  refine sw_aload_n (pc' := 2382) rfl dL_law_2381 rfl ?_
  refine sw_aload_n (pc' := 2383) rfl dL_law_2382 rfl ?_
  refine sw_iload (pc' := 2385) rfl dL_law_2383 rfl ?_
  refine sw_iconst (pc' := 2386) (v := 1) rfl dL_law_2385 (by decide +kernel) ?_
  refine sw_iadd (pc' := 2387) rfl dL_law_2386 ?_
  rw [show (nI i) + 1 = nI (i + 1) from nI_add _ _]
  refine sw_iald (j := i + 1) (pc' := 2388) rfl dL_law_2387 ((pF 0 (by omega) (by omega) (by omega)).trans hs) rfl (by omega) (by omega) ?_
  refine sw_aload_n (pc' := 2389) rfl dL_law_2388 rfl ?_
  refine sw_iload (pc' := 2391) rfl dL_law_2389 rfl ?_
  refine sw_iconst (pc' := 2392) (v := 2) rfl dL_law_2391 (by decide +kernel) ?_
  refine sw_iadd (pc' := 2393) rfl dL_law_2392 ?_
  rw [show (nI i) + 2 = nI (i + 2) from nI_add _ _]
  refine sw_iald (j := i + 2) (pc' := 2394) rfl dL_law_2393 ((pF 0 (by omega) (by omega) (by omega)).trans hs) rfl (by omega) (by omega) ?_
  have hQ2 := hQ.fr (fun i a b => pF i (by omega) (by omega) (by omega))
  obtain ⟨ρ, τ, hM, hA⟩ := id hQ2
  refine sw_V (M' := MX5_often) (d' := d - 1) (bc' := 1) (bs' := 12) (ci := 6) (as := [_, _]) dL_law_2394 w_1421 ok_X5_often (q_often hQ2 (hV.iv hN) (by omega) (by omega) (Nat.le_refl _) (Nat.le_refl _)) hM.ob rfl (by omega) (Nat.le_of_ble_eq_true rfl) (by omega) (by omega) (fun E h' n' _ z => pmc_x z) (pmc_k ox_often (fun u un ub uk uv uR uF => ?_))
  refine sw_istore (pc' := 2399) (lv' := [(6, _), (5, _), (4, _), (3, _), (2, _), (1, _), (0, _)]) rfl dL_law_2397 (by decide +kernel) rfl ?_
  refine sw_aload_n (pc' := 2400) rfl dL_law_2399 rfl ?_
  obtain ⟨uρ, uτ, uM, uA⟩ := id uR
  refine sw_V (M' := MX5_thrown) (d' := d - 1) (bc' := 0) (bs' := 0) (ci := 6) (as := []) dL_law_2400 w_1157 ok_X5_thrown (q_thrown uM) uM.ob rfl (by omega) (Nat.le_of_ble_eq_true rfl) (Nat.zero_le _) (Nat.zero_le _) (fun E h' n' _ z => det_x z) (det_k ?_)
  refine sw_iload (pc' := 2405) rfl dL_law_2403 rfl ?_
  refine sw_icmp_eq (pc' := 2408) (tgt := 2410) rfl dL_law_2405 (by decide +kernel) (fun c2405 => ?_) (fun c2405 => ?_)
  · refine sw_iload (pc' := 2412) rfl dL_law_2410 rfl ?_
    refine sw_if_ne (pc' := 2415) (tgt := 2428) rfl dL_law_2412 (by decide +kernel) (fun c2412 => ?_) (fun c2412 => ?_)
    · refine sw_goto (tgt := 3123) dL_law_2428 (by decide +kernel) ?_
      have J : LI L xs u un (opOften σ (xs (i + 1)) (xs (i + 2))).2 (N + 12) := ⟨pR.frT (fun i hi => uF i (by omega) (by omega)), ⟨_, uR⟩, hT.fr (fun i hi => (uF i (by omega) (by omega)).trans (pF i (by omega) (by omega) (by omega))), iv_often hV, ⟨_, _, (uF 158 (by omega) (by omega)).trans pO⟩, (uF 0 (by omega) (by omega)).trans ((pF 0 (by omega) (by omega) (by omega)).trans hs), by omega⟩
      exact SW.pick [2, 3, 4, 5, 6] rfl ((K u un _ (by omega) J).bud (by omega) (by omega))
    · refine sw_aload_n (pc' := 2416) rfl dL_law_2415 rfl ?_
      refine sw_getN (ci := 5) (k := 0) (pc' := 2419) rfl dL_law_2416 (by decide +kernel) v_347 ((uF 158 (by omega) (by omega)).trans pO) (by show 100 ≤ _; omega) rfl ?_
      refine sw_iload (pc' := 2421) rfl dL_law_2419 rfl ?_
      refine sw_i2l (pc' := 2422) rfl dL_law_2421 ?_
      refine sw_lcmp (pc' := 2423) rfl dL_law_2422 ?_
      refine sw_if_eq (pc' := 2426) (tgt := 2428) rfl dL_law_2423 (by decide +kernel) (fun c2423 => ?_) (fun c2423 => ?_)
      · refine sw_goto (tgt := 3123) dL_law_2428 (by decide +kernel) ?_
        have J : LI L xs u un (opOften σ (xs (i + 1)) (xs (i + 2))).2 (N + 12) := ⟨pR.frT (fun i hi => uF i (by omega) (by omega)), ⟨_, uR⟩, hT.fr (fun i hi => (uF i (by omega) (by omega)).trans (pF i (by omega) (by omega) (by omega))), iv_often hV, ⟨_, _, (uF 158 (by omega) (by omega)).trans pO⟩, (uF 0 (by omega) (by omega)).trans ((pF 0 (by omega) (by omega) (by omega)).trans hs), by omega⟩
        exact SW.pick [2, 3, 4, 5, 6] rfl ((K u un _ (by omega) J).bud (by omega) (by omega))
      · obtain ⟨v9, e9⟩ := ox_0 ox_often c2412
        exact absurd (by rw [pv v9 e9, uv v9 e9]; exact lg_self _) c2423
  · exact absurd rfl c2405
theorem lc_32 {L : Nat} {xs : Nat → Int32} {h : AH} {n i N d bc bs : Nat} {σ : CS} {Post : ARes → AH → Nat → Prop} (hI : LI L xs h n σ N) (hN : N < 2 ^ 31) (hL : L ≤ 3072) (hi : i + 6 ≤ L) (hd : 20 ≤ d) (h1 : 380 ≤ bc) (h2 : 4500 ≤ bs) (K : ∀ (h' : AH) (n' : Nat) (σ' : CS), n ≤ n' → LI L xs h' n' σ' (N + 12) → SW SR0 ML_law d (bc - 380) (bs - 4500) 3123 [(4, .int (nI i)), (3, .ref 158), (2, .ref 135), (1, .ref 100), (0, .ref 0)] [] h' n' Post) : SW SR0 ML_law d bc bs 2431 [(4, .int (nI i)), (3, .ref 158), (2, .ref 135), (1, .ref 100), (0, .ref 0)] [] h n Post := by
  obtain ⟨hR, ⟨th, hQ⟩, hT, hV, ⟨w, s, hO⟩, hs, hn⟩ := hI
  refine sw_aload_n (pc' := 2432) rfl dL_law_2431 rfl ?_
  refine sw_aload_n (pc' := 2433) rfl dL_law_2432 rfl ?_
  refine sw_iload (pc' := 2435) rfl dL_law_2433 rfl ?_
  refine sw_iconst (pc' := 2436) (v := 1) rfl dL_law_2435 (by decide +kernel) ?_
  refine sw_iadd (pc' := 2437) rfl dL_law_2436 ?_
  rw [show (nI i) + 1 = nI (i + 1) from nI_add _ _]
  refine sw_iald (j := i + 1) (pc' := 2438) rfl dL_law_2437 hs rfl (by omega) (by omega) ?_
  refine sw_aload_n (pc' := 2439) rfl dL_law_2438 rfl ?_
  refine sw_iload (pc' := 2441) rfl dL_law_2439 rfl ?_
  refine sw_iconst (pc' := 2442) (v := 2) rfl dL_law_2441 (by decide +kernel) ?_
  refine sw_iadd (pc' := 2443) rfl dL_law_2442 ?_
  rw [show (nI i) + 2 = nI (i + 2) from nI_add _ _]
  refine sw_iald (j := i + 2) (pc' := 2444) rfl dL_law_2443 hs rfl (by omega) (by omega) ?_
  refine sw_aload_n (pc' := 2445) rfl dL_law_2444 rfl ?_
  refine sw_iload (pc' := 2447) rfl dL_law_2445 rfl ?_
  refine sw_iconst (pc' := 2448) (v := 3) rfl dL_law_2447 (by decide +kernel) ?_
  refine sw_iadd (pc' := 2449) rfl dL_law_2448 ?_
  rw [show (nI i) + 3 = nI (i + 3) from nI_add _ _]
  refine sw_iald (j := i + 3) (pc' := 2450) rfl dL_law_2449 hs rfl (by omega) (by omega) ?_
  refine sw_if_eq (pc' := 2453) (tgt := 2457) rfl dL_law_2450 (by decide +kernel) (fun c2450 => ?_) (fun c2450 => ?_)
  · refine sw_iconst (pc' := 2458) (v := 0) rfl dL_law_2457 (by decide +kernel) ?_
    refine sw_aload_n (pc' := 2459) rfl dL_law_2458 rfl ?_
    refine sw_S (M' := ML_placeOf) (d' := d - 1) (bc' := 60) (bs' := 400) (as := [_, _, _, _, _]) dL_law_2459 w_1042 ok_L_placeOf (L_placeOf hR hT hV hN hO hn (by omega) (Nat.le_refl _) (Nat.le_refl _)) (by omega) (Nat.le_of_ble_eq_true rfl) (by omega) (by omega) (fun E h' n' _ z => lpo_x z) (lpo_k (fun p pn pw ps pk pR pO pv pF => ?_))
    refine sw_istore (pc' := 2464) (lv' := [(5, _), (4, _), (3, _), (2, _), (1, _), (0, _)]) rfl dL_law_2462 (by decide +kernel) rfl ?_
    refine sw_aload_n (pc' := 2465) rfl dL_law_2464 rfl ?_
    refine sw_aload_n (pc' := 2466) rfl dL_law_2465 rfl ?_
    refine sw_iload (pc' := 2468) rfl dL_law_2466 rfl ?_
    refine sw_iconst (pc' := 2469) (v := 1) rfl dL_law_2468 (by decide +kernel) ?_
    refine sw_iadd (pc' := 2470) rfl dL_law_2469 ?_
    rw [show (nI i) + 1 = nI (i + 1) from nI_add _ _]
    refine sw_iald (j := i + 1) (pc' := 2471) rfl dL_law_2470 ((pF 0 (by omega) (by omega) (by omega)).trans hs) rfl (by omega) (by omega) ?_
    refine sw_aload_n (pc' := 2472) rfl dL_law_2471 rfl ?_
    refine sw_iload (pc' := 2474) rfl dL_law_2472 rfl ?_
    refine sw_iconst (pc' := 2475) (v := 2) rfl dL_law_2474 (by decide +kernel) ?_
    refine sw_iadd (pc' := 2476) rfl dL_law_2475 ?_
    rw [show (nI i) + 2 = nI (i + 2) from nI_add _ _]
    refine sw_iald (j := i + 2) (pc' := 2477) rfl dL_law_2476 ((pF 0 (by omega) (by omega) (by omega)).trans hs) rfl (by omega) (by omega) ?_
    refine sw_aload_n (pc' := 2478) rfl dL_law_2477 rfl ?_
    refine sw_iload (pc' := 2480) rfl dL_law_2478 rfl ?_
    refine sw_iconst (pc' := 2481) (v := 3) rfl dL_law_2480 (by decide +kernel) ?_
    refine sw_iadd (pc' := 2482) rfl dL_law_2481 ?_
    rw [show (nI i) + 3 = nI (i + 3) from nI_add _ _]
    refine sw_iald (j := i + 3) (pc' := 2483) rfl dL_law_2482 ((pF 0 (by omega) (by omega) (by omega)).trans hs) rfl (by omega) (by omega) ?_
    refine sw_if_eq (pc' := 2486) (tgt := 2490) rfl dL_law_2483 (by decide +kernel) (fun c2483 => ?_) (fun c2483 => ?_)
    · refine sw_iconst (pc' := 2491) (v := 0) rfl dL_law_2490 (by decide +kernel) ?_
      have hQ2 := hQ.fr (fun i a b => pF i (by omega) (by omega) (by omega))
      obtain ⟨ρ, τ, hM, hA⟩ := id hQ2
      refine sw_V (M' := MX5_placeOf) (d' := d - 1) (bc' := 1) (bs' := 12) (ci := 6) (as := [_, _, _]) dL_law_2491 w_1425 ok_X5_placeOf (q_placeOf hQ2 (hV.iv hN) (by omega) (by omega) (Nat.le_refl _) (Nat.le_refl _)) hM.ob rfl (by omega) (Nat.le_of_ble_eq_true rfl) (by omega) (by omega) (fun E h' n' _ z => pmc_x z) (pmc_k ox_placeOf (fun u un ub uk uv uR uF => ?_))
      refine sw_istore (pc' := 2496) (lv' := [(6, _), (5, _), (4, _), (3, _), (2, _), (1, _), (0, _)]) rfl dL_law_2494 (by decide +kernel) rfl ?_
      refine sw_aload_n (pc' := 2497) rfl dL_law_2496 rfl ?_
      obtain ⟨uρ, uτ, uM, uA⟩ := id uR
      refine sw_V (M' := MX5_thrown) (d' := d - 1) (bc' := 0) (bs' := 0) (ci := 6) (as := []) dL_law_2497 w_1157 ok_X5_thrown (q_thrown uM) uM.ob rfl (by omega) (Nat.le_of_ble_eq_true rfl) (Nat.zero_le _) (Nat.zero_le _) (fun E h' n' _ z => det_x z) (det_k ?_)
      refine sw_iload (pc' := 2502) rfl dL_law_2500 rfl ?_
      refine sw_icmp_eq (pc' := 2505) (tgt := 2507) rfl dL_law_2502 (by decide +kernel) (fun c2502 => ?_) (fun c2502 => ?_)
      · refine sw_iload (pc' := 2509) rfl dL_law_2507 rfl ?_
        refine sw_if_ne (pc' := 2512) (tgt := 2525) rfl dL_law_2509 (by decide +kernel) (fun c2509 => ?_) (fun c2509 => ?_)
        · refine sw_goto (tgt := 3123) dL_law_2525 (by decide +kernel) ?_
          have J : LI L xs u un (opPlaceOf σ (xs (i + 1)) (xs (i + 2)) 0).2 (N + 12) := ⟨pR.frT (fun i hi => uF i (by omega) (by omega)), ⟨_, uR⟩, hT.fr (fun i hi => (uF i (by omega) (by omega)).trans (pF i (by omega) (by omega) (by omega))), iv_placeOf hV, ⟨_, _, (uF 158 (by omega) (by omega)).trans pO⟩, (uF 0 (by omega) (by omega)).trans ((pF 0 (by omega) (by omega) (by omega)).trans hs), by omega⟩
          exact SW.pick [2, 3, 4, 5, 6] rfl ((K u un _ (by omega) J).bud (by omega) (by omega))
        · refine sw_aload_n (pc' := 2513) rfl dL_law_2512 rfl ?_
          refine sw_getN (ci := 5) (k := 0) (pc' := 2516) rfl dL_law_2513 (by decide +kernel) v_347 ((uF 158 (by omega) (by omega)).trans pO) (by show 100 ≤ _; omega) rfl ?_
          refine sw_iload (pc' := 2518) rfl dL_law_2516 rfl ?_
          refine sw_i2l (pc' := 2519) rfl dL_law_2518 ?_
          refine sw_lcmp (pc' := 2520) rfl dL_law_2519 ?_
          refine sw_if_eq (pc' := 2523) (tgt := 2525) rfl dL_law_2520 (by decide +kernel) (fun c2520 => ?_) (fun c2520 => ?_)
          · refine sw_goto (tgt := 3123) dL_law_2525 (by decide +kernel) ?_
            have J : LI L xs u un (opPlaceOf σ (xs (i + 1)) (xs (i + 2)) 0).2 (N + 12) := ⟨pR.frT (fun i hi => uF i (by omega) (by omega)), ⟨_, uR⟩, hT.fr (fun i hi => (uF i (by omega) (by omega)).trans (pF i (by omega) (by omega) (by omega))), iv_placeOf hV, ⟨_, _, (uF 158 (by omega) (by omega)).trans pO⟩, (uF 0 (by omega) (by omega)).trans ((pF 0 (by omega) (by omega) (by omega)).trans hs), by omega⟩
            exact SW.pick [2, 3, 4, 5, 6] rfl ((K u un _ (by omega) J).bud (by omega) (by omega))
          · obtain ⟨v9, e9⟩ := ox_0 ox_placeOf c2509
            exact absurd (by rw [pv v9 e9, uv v9 e9]; exact lg_self _) c2520
      · exact absurd rfl c2502
    · exact absurd c2450 c2483
  · refine sw_iconst (pc' := 2454) (v := 1) rfl dL_law_2453 (by decide +kernel) ?_
    refine sw_goto (tgt := 2458) dL_law_2454 (by decide +kernel) ?_
    refine sw_aload_n (pc' := 2459) rfl dL_law_2458 rfl ?_
    refine sw_S (M' := ML_placeOf) (d' := d - 1) (bc' := 60) (bs' := 400) (as := [_, _, _, _, _]) dL_law_2459 w_1042 ok_L_placeOf (L_placeOf hR hT hV hN hO hn (by omega) (Nat.le_refl _) (Nat.le_refl _)) (by omega) (Nat.le_of_ble_eq_true rfl) (by omega) (by omega) (fun E h' n' _ z => lpo_x z) (lpo_k (fun p pn pw ps pk pR pO pv pF => ?_))
    refine sw_istore (pc' := 2464) (lv' := [(5, _), (4, _), (3, _), (2, _), (1, _), (0, _)]) rfl dL_law_2462 (by decide +kernel) rfl ?_
    refine sw_aload_n (pc' := 2465) rfl dL_law_2464 rfl ?_
    refine sw_aload_n (pc' := 2466) rfl dL_law_2465 rfl ?_
    refine sw_iload (pc' := 2468) rfl dL_law_2466 rfl ?_
    refine sw_iconst (pc' := 2469) (v := 1) rfl dL_law_2468 (by decide +kernel) ?_
    refine sw_iadd (pc' := 2470) rfl dL_law_2469 ?_
    rw [show (nI i) + 1 = nI (i + 1) from nI_add _ _]
    refine sw_iald (j := i + 1) (pc' := 2471) rfl dL_law_2470 ((pF 0 (by omega) (by omega) (by omega)).trans hs) rfl (by omega) (by omega) ?_
    refine sw_aload_n (pc' := 2472) rfl dL_law_2471 rfl ?_
    refine sw_iload (pc' := 2474) rfl dL_law_2472 rfl ?_
    refine sw_iconst (pc' := 2475) (v := 2) rfl dL_law_2474 (by decide +kernel) ?_
    refine sw_iadd (pc' := 2476) rfl dL_law_2475 ?_
    rw [show (nI i) + 2 = nI (i + 2) from nI_add _ _]
    refine sw_iald (j := i + 2) (pc' := 2477) rfl dL_law_2476 ((pF 0 (by omega) (by omega) (by omega)).trans hs) rfl (by omega) (by omega) ?_
    refine sw_aload_n (pc' := 2478) rfl dL_law_2477 rfl ?_
    refine sw_iload (pc' := 2480) rfl dL_law_2478 rfl ?_
    refine sw_iconst (pc' := 2481) (v := 3) rfl dL_law_2480 (by decide +kernel) ?_
    refine sw_iadd (pc' := 2482) rfl dL_law_2481 ?_
    rw [show (nI i) + 3 = nI (i + 3) from nI_add _ _]
    refine sw_iald (j := i + 3) (pc' := 2483) rfl dL_law_2482 ((pF 0 (by omega) (by omega) (by omega)).trans hs) rfl (by omega) (by omega) ?_
    refine sw_if_eq (pc' := 2486) (tgt := 2490) rfl dL_law_2483 (by decide +kernel) (fun c2483 => ?_) (fun c2483 => ?_)
    · exact absurd c2483 c2450
    · refine sw_iconst (pc' := 2487) (v := 1) rfl dL_law_2486 (by decide +kernel) ?_
      refine sw_goto (tgt := 2491) dL_law_2487 (by decide +kernel) ?_
      have hQ2 := hQ.fr (fun i a b => pF i (by omega) (by omega) (by omega))
      obtain ⟨ρ, τ, hM, hA⟩ := id hQ2
      refine sw_V (M' := MX5_placeOf) (d' := d - 1) (bc' := 1) (bs' := 12) (ci := 6) (as := [_, _, _]) dL_law_2491 w_1425 ok_X5_placeOf (q_placeOf hQ2 (hV.iv hN) (by omega) (by omega) (Nat.le_refl _) (Nat.le_refl _)) hM.ob rfl (by omega) (Nat.le_of_ble_eq_true rfl) (by omega) (by omega) (fun E h' n' _ z => pmc_x z) (pmc_k ox_placeOf (fun u un ub uk uv uR uF => ?_))
      refine sw_istore (pc' := 2496) (lv' := [(6, _), (5, _), (4, _), (3, _), (2, _), (1, _), (0, _)]) rfl dL_law_2494 (by decide +kernel) rfl ?_
      refine sw_aload_n (pc' := 2497) rfl dL_law_2496 rfl ?_
      obtain ⟨uρ, uτ, uM, uA⟩ := id uR
      refine sw_V (M' := MX5_thrown) (d' := d - 1) (bc' := 0) (bs' := 0) (ci := 6) (as := []) dL_law_2497 w_1157 ok_X5_thrown (q_thrown uM) uM.ob rfl (by omega) (Nat.le_of_ble_eq_true rfl) (Nat.zero_le _) (Nat.zero_le _) (fun E h' n' _ z => det_x z) (det_k ?_)
      refine sw_iload (pc' := 2502) rfl dL_law_2500 rfl ?_
      refine sw_icmp_eq (pc' := 2505) (tgt := 2507) rfl dL_law_2502 (by decide +kernel) (fun c2502 => ?_) (fun c2502 => ?_)
      · refine sw_iload (pc' := 2509) rfl dL_law_2507 rfl ?_
        refine sw_if_ne (pc' := 2512) (tgt := 2525) rfl dL_law_2509 (by decide +kernel) (fun c2509 => ?_) (fun c2509 => ?_)
        · refine sw_goto (tgt := 3123) dL_law_2525 (by decide +kernel) ?_
          have J : LI L xs u un (opPlaceOf σ (xs (i + 1)) (xs (i + 2)) 1).2 (N + 12) := ⟨pR.frT (fun i hi => uF i (by omega) (by omega)), ⟨_, uR⟩, hT.fr (fun i hi => (uF i (by omega) (by omega)).trans (pF i (by omega) (by omega) (by omega))), iv_placeOf hV, ⟨_, _, (uF 158 (by omega) (by omega)).trans pO⟩, (uF 0 (by omega) (by omega)).trans ((pF 0 (by omega) (by omega) (by omega)).trans hs), by omega⟩
          exact SW.pick [2, 3, 4, 5, 6] rfl ((K u un _ (by omega) J).bud (by omega) (by omega))
        · refine sw_aload_n (pc' := 2513) rfl dL_law_2512 rfl ?_
          refine sw_getN (ci := 5) (k := 0) (pc' := 2516) rfl dL_law_2513 (by decide +kernel) v_347 ((uF 158 (by omega) (by omega)).trans pO) (by show 100 ≤ _; omega) rfl ?_
          refine sw_iload (pc' := 2518) rfl dL_law_2516 rfl ?_
          refine sw_i2l (pc' := 2519) rfl dL_law_2518 ?_
          refine sw_lcmp (pc' := 2520) rfl dL_law_2519 ?_
          refine sw_if_eq (pc' := 2523) (tgt := 2525) rfl dL_law_2520 (by decide +kernel) (fun c2520 => ?_) (fun c2520 => ?_)
          · refine sw_goto (tgt := 3123) dL_law_2525 (by decide +kernel) ?_
            have J : LI L xs u un (opPlaceOf σ (xs (i + 1)) (xs (i + 2)) 1).2 (N + 12) := ⟨pR.frT (fun i hi => uF i (by omega) (by omega)), ⟨_, uR⟩, hT.fr (fun i hi => (uF i (by omega) (by omega)).trans (pF i (by omega) (by omega) (by omega))), iv_placeOf hV, ⟨_, _, (uF 158 (by omega) (by omega)).trans pO⟩, (uF 0 (by omega) (by omega)).trans ((pF 0 (by omega) (by omega) (by omega)).trans hs), by omega⟩
            exact SW.pick [2, 3, 4, 5, 6] rfl ((K u un _ (by omega) J).bud (by omega) (by omega))
          · obtain ⟨v9, e9⟩ := ox_0 ox_placeOf c2509
            exact absurd (by rw [pv v9 e9, uv v9 e9]; exact lg_self _) c2520
      · exact absurd rfl c2502
theorem lc_33 {L : Nat} {xs : Nat → Int32} {h : AH} {n i N d bc bs : Nat} {σ : CS} {Post : ARes → AH → Nat → Prop} (hI : LI L xs h n σ N) (hN : N < 2 ^ 31) (hL : L ≤ 3072) (hi : i + 6 ≤ L) (hd : 20 ≤ d) (h1 : 380 ≤ bc) (h2 : 4500 ≤ bs) (K : ∀ (h' : AH) (n' : Nat) (σ' : CS), n ≤ n' → LI L xs h' n' σ' (N + 12) → SW SR0 ML_law d (bc - 380) (bs - 4500) 3123 [(4, .int (nI i)), (3, .ref 158), (2, .ref 135), (1, .ref 100), (0, .ref 0)] [] h' n' Post) : SW SR0 ML_law d bc bs 2528 [(4, .int (nI i)), (3, .ref 158), (2, .ref 135), (1, .ref 100), (0, .ref 0)] [] h n Post := by
  obtain ⟨hR, ⟨th, hQ⟩, hT, hV, ⟨w, s, hO⟩, hs, hn⟩ := hI
  refine sw_aload_n (pc' := 2529) rfl dL_law_2528 rfl ?_
  refine sw_aload_n (pc' := 2530) rfl dL_law_2529 rfl ?_
  refine sw_iload (pc' := 2532) rfl dL_law_2530 rfl ?_
  refine sw_iconst (pc' := 2533) (v := 1) rfl dL_law_2532 (by decide +kernel) ?_
  refine sw_iadd (pc' := 2534) rfl dL_law_2533 ?_
  rw [show (nI i) + 1 = nI (i + 1) from nI_add _ _]
  refine sw_iald (j := i + 1) (pc' := 2535) rfl dL_law_2534 hs rfl (by omega) (by omega) ?_
  refine sw_aload_n (pc' := 2536) rfl dL_law_2535 rfl ?_
  refine sw_iload (pc' := 2538) rfl dL_law_2536 rfl ?_
  refine sw_iconst (pc' := 2539) (v := 2) rfl dL_law_2538 (by decide +kernel) ?_
  refine sw_iadd (pc' := 2540) rfl dL_law_2539 ?_
  rw [show (nI i) + 2 = nI (i + 2) from nI_add _ _]
  refine sw_iald (j := i + 2) (pc' := 2541) rfl dL_law_2540 hs rfl (by omega) (by omega) ?_
  refine sw_aload_n (pc' := 2542) rfl dL_law_2541 rfl ?_
  refine sw_S (M' := ML_disjoint) (d' := d - 1) (bc' := 60) (bs' := 400) (as := [_, _, _, _]) dL_law_2542 w_1053 ok_L_disjoint (L_disjoint hR hT hV hN hO hn (by omega) (Nat.le_refl _) (Nat.le_refl _)) (by omega) (Nat.le_of_ble_eq_true rfl) (by omega) (by omega) (fun E h' n' _ z => lpo_x z) (lpo_k (fun p pn pw ps pk pR pO pv pF => ?_))
  refine sw_istore (pc' := 2547) (lv' := [(5, _), (4, _), (3, _), (2, _), (1, _), (0, _)]) rfl dL_law_2545 (by decide +kernel) rfl ?_
  refine sw_aload_n (pc' := 2548) rfl dL_law_2547 rfl ?_
  refine sw_aload_n (pc' := 2549) rfl dL_law_2548 rfl ?_
  refine sw_iload (pc' := 2551) rfl dL_law_2549 rfl ?_
  refine sw_iconst (pc' := 2552) (v := 1) rfl dL_law_2551 (by decide +kernel) ?_
  refine sw_iadd (pc' := 2553) rfl dL_law_2552 ?_
  rw [show (nI i) + 1 = nI (i + 1) from nI_add _ _]
  refine sw_iald (j := i + 1) (pc' := 2554) rfl dL_law_2553 ((pF 0 (by omega) (by omega) (by omega)).trans hs) rfl (by omega) (by omega) ?_
  refine sw_aload_n (pc' := 2555) rfl dL_law_2554 rfl ?_
  refine sw_iload (pc' := 2557) rfl dL_law_2555 rfl ?_
  refine sw_iconst (pc' := 2558) (v := 2) rfl dL_law_2557 (by decide +kernel) ?_
  refine sw_iadd (pc' := 2559) rfl dL_law_2558 ?_
  rw [show (nI i) + 2 = nI (i + 2) from nI_add _ _]
  refine sw_iald (j := i + 2) (pc' := 2560) rfl dL_law_2559 ((pF 0 (by omega) (by omega) (by omega)).trans hs) rfl (by omega) (by omega) ?_
  have hQ2 := hQ.fr (fun i a b => pF i (by omega) (by omega) (by omega))
  obtain ⟨ρ, τ, hM, hA⟩ := id hQ2
  refine sw_V (M' := MX5_disjoint) (d' := d - 1) (bc' := 1) (bs' := 12) (ci := 6) (as := [_, _]) dL_law_2560 w_1429 ok_X5_disjoint (q_disjoint hQ2 (hV.iv hN) (by omega) (by omega) (Nat.le_refl _) (Nat.le_refl _)) hM.ob rfl (by omega) (Nat.le_of_ble_eq_true rfl) (by omega) (by omega) (fun E h' n' _ z => pmc_x z) (pmc_k ox_disjoint (fun u un ub uk uv uR uF => ?_))
  refine sw_istore (pc' := 2565) (lv' := [(6, _), (5, _), (4, _), (3, _), (2, _), (1, _), (0, _)]) rfl dL_law_2563 (by decide +kernel) rfl ?_
  refine sw_aload_n (pc' := 2566) rfl dL_law_2565 rfl ?_
  obtain ⟨uρ, uτ, uM, uA⟩ := id uR
  refine sw_V (M' := MX5_thrown) (d' := d - 1) (bc' := 0) (bs' := 0) (ci := 6) (as := []) dL_law_2566 w_1157 ok_X5_thrown (q_thrown uM) uM.ob rfl (by omega) (Nat.le_of_ble_eq_true rfl) (Nat.zero_le _) (Nat.zero_le _) (fun E h' n' _ z => det_x z) (det_k ?_)
  refine sw_iload (pc' := 2571) rfl dL_law_2569 rfl ?_
  refine sw_icmp_eq (pc' := 2574) (tgt := 2576) rfl dL_law_2571 (by decide +kernel) (fun c2571 => ?_) (fun c2571 => ?_)
  · refine sw_iload (pc' := 2578) rfl dL_law_2576 rfl ?_
    refine sw_if_ne (pc' := 2581) (tgt := 2594) rfl dL_law_2578 (by decide +kernel) (fun c2578 => ?_) (fun c2578 => ?_)
    · refine sw_goto (tgt := 3123) dL_law_2594 (by decide +kernel) ?_
      have J : LI L xs u un (opDisjoint σ (xs (i + 1)) (xs (i + 2))).2 (N + 12) := ⟨pR.frT (fun i hi => uF i (by omega) (by omega)), ⟨_, uR⟩, hT.fr (fun i hi => (uF i (by omega) (by omega)).trans (pF i (by omega) (by omega) (by omega))), iv_disjoint hV, ⟨_, _, (uF 158 (by omega) (by omega)).trans pO⟩, (uF 0 (by omega) (by omega)).trans ((pF 0 (by omega) (by omega) (by omega)).trans hs), by omega⟩
      exact SW.pick [2, 3, 4, 5, 6] rfl ((K u un _ (by omega) J).bud (by omega) (by omega))
    · refine sw_aload_n (pc' := 2582) rfl dL_law_2581 rfl ?_
      refine sw_getN (ci := 5) (k := 0) (pc' := 2585) rfl dL_law_2582 (by decide +kernel) v_347 ((uF 158 (by omega) (by omega)).trans pO) (by show 100 ≤ _; omega) rfl ?_
      refine sw_iload (pc' := 2587) rfl dL_law_2585 rfl ?_
      refine sw_i2l (pc' := 2588) rfl dL_law_2587 ?_
      refine sw_lcmp (pc' := 2589) rfl dL_law_2588 ?_
      refine sw_if_eq (pc' := 2592) (tgt := 2594) rfl dL_law_2589 (by decide +kernel) (fun c2589 => ?_) (fun c2589 => ?_)
      · refine sw_goto (tgt := 3123) dL_law_2594 (by decide +kernel) ?_
        have J : LI L xs u un (opDisjoint σ (xs (i + 1)) (xs (i + 2))).2 (N + 12) := ⟨pR.frT (fun i hi => uF i (by omega) (by omega)), ⟨_, uR⟩, hT.fr (fun i hi => (uF i (by omega) (by omega)).trans (pF i (by omega) (by omega) (by omega))), iv_disjoint hV, ⟨_, _, (uF 158 (by omega) (by omega)).trans pO⟩, (uF 0 (by omega) (by omega)).trans ((pF 0 (by omega) (by omega) (by omega)).trans hs), by omega⟩
        exact SW.pick [2, 3, 4, 5, 6] rfl ((K u un _ (by omega) J).bud (by omega) (by omega))
      · obtain ⟨v9, e9⟩ := ox_0 ox_disjoint c2578
        exact absurd (by rw [pv v9 e9, uv v9 e9]; exact lg_self _) c2589
  · exact absurd rfl c2571
theorem lc_34 {L : Nat} {xs : Nat → Int32} {h : AH} {n i N d bc bs : Nat} {σ : CS} {Post : ARes → AH → Nat → Prop} (hI : LI L xs h n σ N) (hN : N < 2 ^ 31) (hL : L ≤ 3072) (hi : i + 6 ≤ L) (hd : 20 ≤ d) (h1 : 380 ≤ bc) (h2 : 4500 ≤ bs) (K : ∀ (h' : AH) (n' : Nat) (σ' : CS), n ≤ n' → LI L xs h' n' σ' (N + 12) → SW SR0 ML_law d (bc - 380) (bs - 4500) 3123 [(4, .int (nI i)), (3, .ref 158), (2, .ref 135), (1, .ref 100), (0, .ref 0)] [] h' n' Post) : SW SR0 ML_law d bc bs 2597 [(4, .int (nI i)), (3, .ref 158), (2, .ref 135), (1, .ref 100), (0, .ref 0)] [] h n Post := by
  obtain ⟨hR, ⟨th, hQ⟩, hT, hV, ⟨w, s, hO⟩, hs, hn⟩ := hI
  refine sw_aload_n (pc' := 2598) rfl dL_law_2597 rfl ?_
  refine sw_aload_n (pc' := 2599) rfl dL_law_2598 rfl ?_
  refine sw_iload (pc' := 2601) rfl dL_law_2599 rfl ?_
  refine sw_iconst (pc' := 2602) (v := 1) rfl dL_law_2601 (by decide +kernel) ?_
  refine sw_iadd (pc' := 2603) rfl dL_law_2602 ?_
  rw [show (nI i) + 1 = nI (i + 1) from nI_add _ _]
  refine sw_iald (j := i + 1) (pc' := 2604) rfl dL_law_2603 hs rfl (by omega) (by omega) ?_
  refine sw_aload_n (pc' := 2605) rfl dL_law_2604 rfl ?_
  refine sw_iload (pc' := 2607) rfl dL_law_2605 rfl ?_
  refine sw_iconst (pc' := 2608) (v := 2) rfl dL_law_2607 (by decide +kernel) ?_
  refine sw_iadd (pc' := 2609) rfl dL_law_2608 ?_
  rw [show (nI i) + 2 = nI (i + 2) from nI_add _ _]
  refine sw_iald (j := i + 2) (pc' := 2610) rfl dL_law_2609 hs rfl (by omega) (by omega) ?_
  refine sw_if_eq (pc' := 2613) (tgt := 2617) rfl dL_law_2610 (by decide +kernel) (fun c2610 => ?_) (fun c2610 => ?_)
  · refine sw_iconst (pc' := 2618) (v := 0) rfl dL_law_2617 (by decide +kernel) ?_
    refine sw_aload_n (pc' := 2619) rfl dL_law_2618 rfl ?_
    refine sw_S (M' := ML_end) (d' := d - 1) (bc' := 60) (bs' := 400) (as := [_, _, _, _]) dL_law_2619 w_1060 ok_L_end (L_end hR hT hV hN hO hn (by omega) (Nat.le_refl _) (Nat.le_refl _)) (by omega) (Nat.le_of_ble_eq_true rfl) (by omega) (by omega) (fun E h' n' _ z => lpo_x z) (lpo_k (fun p pn pw ps pk pR pO pv pF => ?_))
    refine sw_istore (pc' := 2624) (lv' := [(5, _), (4, _), (3, _), (2, _), (1, _), (0, _)]) rfl dL_law_2622 (by decide +kernel) rfl ?_
    refine sw_aload_n (pc' := 2625) rfl dL_law_2624 rfl ?_
    refine sw_aload_n (pc' := 2626) rfl dL_law_2625 rfl ?_
    refine sw_iload (pc' := 2628) rfl dL_law_2626 rfl ?_
    refine sw_iconst (pc' := 2629) (v := 1) rfl dL_law_2628 (by decide +kernel) ?_
    refine sw_iadd (pc' := 2630) rfl dL_law_2629 ?_
    rw [show (nI i) + 1 = nI (i + 1) from nI_add _ _]
    refine sw_iald (j := i + 1) (pc' := 2631) rfl dL_law_2630 ((pF 0 (by omega) (by omega) (by omega)).trans hs) rfl (by omega) (by omega) ?_
    refine sw_aload_n (pc' := 2632) rfl dL_law_2631 rfl ?_
    refine sw_iload (pc' := 2634) rfl dL_law_2632 rfl ?_
    refine sw_iconst (pc' := 2635) (v := 2) rfl dL_law_2634 (by decide +kernel) ?_
    refine sw_iadd (pc' := 2636) rfl dL_law_2635 ?_
    rw [show (nI i) + 2 = nI (i + 2) from nI_add _ _]
    refine sw_iald (j := i + 2) (pc' := 2637) rfl dL_law_2636 ((pF 0 (by omega) (by omega) (by omega)).trans hs) rfl (by omega) (by omega) ?_
    refine sw_if_eq (pc' := 2640) (tgt := 2644) rfl dL_law_2637 (by decide +kernel) (fun c2637 => ?_) (fun c2637 => ?_)
    · refine sw_iconst (pc' := 2645) (v := 0) rfl dL_law_2644 (by decide +kernel) ?_
      have hQ2 := hQ.fr (fun i a b => pF i (by omega) (by omega) (by omega))
      obtain ⟨ρ, τ, hM, hA⟩ := id hQ2
      refine sw_V (M' := MX5_end) (d' := d - 1) (bc' := 1) (bs' := 12) (ci := 6) (as := [_, _]) dL_law_2645 w_1433 ok_X5_end (q_end hQ2 (hV.iv hN) (by omega) (by omega) (Nat.le_refl _) (Nat.le_refl _)) hM.ob rfl (by omega) (Nat.le_of_ble_eq_true rfl) (by omega) (by omega) (fun E h' n' _ z => pmc_x z) (pmc_k ox_end (fun u un ub uk uv uR uF => ?_))
      refine sw_istore (pc' := 2650) (lv' := [(6, _), (5, _), (4, _), (3, _), (2, _), (1, _), (0, _)]) rfl dL_law_2648 (by decide +kernel) rfl ?_
      refine sw_aload_n (pc' := 2651) rfl dL_law_2650 rfl ?_
      obtain ⟨uρ, uτ, uM, uA⟩ := id uR
      refine sw_V (M' := MX5_thrown) (d' := d - 1) (bc' := 0) (bs' := 0) (ci := 6) (as := []) dL_law_2651 w_1157 ok_X5_thrown (q_thrown uM) uM.ob rfl (by omega) (Nat.le_of_ble_eq_true rfl) (Nat.zero_le _) (Nat.zero_le _) (fun E h' n' _ z => det_x z) (det_k ?_)
      refine sw_iload (pc' := 2656) rfl dL_law_2654 rfl ?_
      refine sw_icmp_eq (pc' := 2659) (tgt := 2661) rfl dL_law_2656 (by decide +kernel) (fun c2656 => ?_) (fun c2656 => ?_)
      · refine sw_iload (pc' := 2663) rfl dL_law_2661 rfl ?_
        refine sw_if_ne (pc' := 2666) (tgt := 2679) rfl dL_law_2663 (by decide +kernel) (fun c2663 => ?_) (fun c2663 => ?_)
        · refine sw_goto (tgt := 3123) dL_law_2679 (by decide +kernel) ?_
          have J : LI L xs u un (opEnd σ (xs (i + 1)) 0).2 (N + 12) := ⟨pR.frT (fun i hi => uF i (by omega) (by omega)), ⟨_, uR⟩, hT.fr (fun i hi => (uF i (by omega) (by omega)).trans (pF i (by omega) (by omega) (by omega))), iv_end hV, ⟨_, _, (uF 158 (by omega) (by omega)).trans pO⟩, (uF 0 (by omega) (by omega)).trans ((pF 0 (by omega) (by omega) (by omega)).trans hs), by omega⟩
          exact SW.pick [2, 3, 4, 5, 6] rfl ((K u un _ (by omega) J).bud (by omega) (by omega))
        · refine sw_aload_n (pc' := 2667) rfl dL_law_2666 rfl ?_
          refine sw_getN (ci := 5) (k := 0) (pc' := 2670) rfl dL_law_2667 (by decide +kernel) v_347 ((uF 158 (by omega) (by omega)).trans pO) (by show 100 ≤ _; omega) rfl ?_
          refine sw_iload (pc' := 2672) rfl dL_law_2670 rfl ?_
          refine sw_i2l (pc' := 2673) rfl dL_law_2672 ?_
          refine sw_lcmp (pc' := 2674) rfl dL_law_2673 ?_
          refine sw_if_eq (pc' := 2677) (tgt := 2679) rfl dL_law_2674 (by decide +kernel) (fun c2674 => ?_) (fun c2674 => ?_)
          · refine sw_goto (tgt := 3123) dL_law_2679 (by decide +kernel) ?_
            have J : LI L xs u un (opEnd σ (xs (i + 1)) 0).2 (N + 12) := ⟨pR.frT (fun i hi => uF i (by omega) (by omega)), ⟨_, uR⟩, hT.fr (fun i hi => (uF i (by omega) (by omega)).trans (pF i (by omega) (by omega) (by omega))), iv_end hV, ⟨_, _, (uF 158 (by omega) (by omega)).trans pO⟩, (uF 0 (by omega) (by omega)).trans ((pF 0 (by omega) (by omega) (by omega)).trans hs), by omega⟩
            exact SW.pick [2, 3, 4, 5, 6] rfl ((K u un _ (by omega) J).bud (by omega) (by omega))
          · obtain ⟨v9, e9⟩ := ox_0 ox_end c2663
            exact absurd (by rw [pv v9 e9, uv v9 e9]; exact lg_self _) c2674
      · exact absurd rfl c2656
    · exact absurd c2610 c2637
  · refine sw_iconst (pc' := 2614) (v := 1) rfl dL_law_2613 (by decide +kernel) ?_
    refine sw_goto (tgt := 2618) dL_law_2614 (by decide +kernel) ?_
    refine sw_aload_n (pc' := 2619) rfl dL_law_2618 rfl ?_
    refine sw_S (M' := ML_end) (d' := d - 1) (bc' := 60) (bs' := 400) (as := [_, _, _, _]) dL_law_2619 w_1060 ok_L_end (L_end hR hT hV hN hO hn (by omega) (Nat.le_refl _) (Nat.le_refl _)) (by omega) (Nat.le_of_ble_eq_true rfl) (by omega) (by omega) (fun E h' n' _ z => lpo_x z) (lpo_k (fun p pn pw ps pk pR pO pv pF => ?_))
    refine sw_istore (pc' := 2624) (lv' := [(5, _), (4, _), (3, _), (2, _), (1, _), (0, _)]) rfl dL_law_2622 (by decide +kernel) rfl ?_
    refine sw_aload_n (pc' := 2625) rfl dL_law_2624 rfl ?_
    refine sw_aload_n (pc' := 2626) rfl dL_law_2625 rfl ?_
    refine sw_iload (pc' := 2628) rfl dL_law_2626 rfl ?_
    refine sw_iconst (pc' := 2629) (v := 1) rfl dL_law_2628 (by decide +kernel) ?_
    refine sw_iadd (pc' := 2630) rfl dL_law_2629 ?_
    rw [show (nI i) + 1 = nI (i + 1) from nI_add _ _]
    refine sw_iald (j := i + 1) (pc' := 2631) rfl dL_law_2630 ((pF 0 (by omega) (by omega) (by omega)).trans hs) rfl (by omega) (by omega) ?_
    refine sw_aload_n (pc' := 2632) rfl dL_law_2631 rfl ?_
    refine sw_iload (pc' := 2634) rfl dL_law_2632 rfl ?_
    refine sw_iconst (pc' := 2635) (v := 2) rfl dL_law_2634 (by decide +kernel) ?_
    refine sw_iadd (pc' := 2636) rfl dL_law_2635 ?_
    rw [show (nI i) + 2 = nI (i + 2) from nI_add _ _]
    refine sw_iald (j := i + 2) (pc' := 2637) rfl dL_law_2636 ((pF 0 (by omega) (by omega) (by omega)).trans hs) rfl (by omega) (by omega) ?_
    refine sw_if_eq (pc' := 2640) (tgt := 2644) rfl dL_law_2637 (by decide +kernel) (fun c2637 => ?_) (fun c2637 => ?_)
    · exact absurd c2637 c2610
    · refine sw_iconst (pc' := 2641) (v := 1) rfl dL_law_2640 (by decide +kernel) ?_
      refine sw_goto (tgt := 2645) dL_law_2641 (by decide +kernel) ?_
      have hQ2 := hQ.fr (fun i a b => pF i (by omega) (by omega) (by omega))
      obtain ⟨ρ, τ, hM, hA⟩ := id hQ2
      refine sw_V (M' := MX5_end) (d' := d - 1) (bc' := 1) (bs' := 12) (ci := 6) (as := [_, _]) dL_law_2645 w_1433 ok_X5_end (q_end hQ2 (hV.iv hN) (by omega) (by omega) (Nat.le_refl _) (Nat.le_refl _)) hM.ob rfl (by omega) (Nat.le_of_ble_eq_true rfl) (by omega) (by omega) (fun E h' n' _ z => pmc_x z) (pmc_k ox_end (fun u un ub uk uv uR uF => ?_))
      refine sw_istore (pc' := 2650) (lv' := [(6, _), (5, _), (4, _), (3, _), (2, _), (1, _), (0, _)]) rfl dL_law_2648 (by decide +kernel) rfl ?_
      refine sw_aload_n (pc' := 2651) rfl dL_law_2650 rfl ?_
      obtain ⟨uρ, uτ, uM, uA⟩ := id uR
      refine sw_V (M' := MX5_thrown) (d' := d - 1) (bc' := 0) (bs' := 0) (ci := 6) (as := []) dL_law_2651 w_1157 ok_X5_thrown (q_thrown uM) uM.ob rfl (by omega) (Nat.le_of_ble_eq_true rfl) (Nat.zero_le _) (Nat.zero_le _) (fun E h' n' _ z => det_x z) (det_k ?_)
      refine sw_iload (pc' := 2656) rfl dL_law_2654 rfl ?_
      refine sw_icmp_eq (pc' := 2659) (tgt := 2661) rfl dL_law_2656 (by decide +kernel) (fun c2656 => ?_) (fun c2656 => ?_)
      · refine sw_iload (pc' := 2663) rfl dL_law_2661 rfl ?_
        refine sw_if_ne (pc' := 2666) (tgt := 2679) rfl dL_law_2663 (by decide +kernel) (fun c2663 => ?_) (fun c2663 => ?_)
        · refine sw_goto (tgt := 3123) dL_law_2679 (by decide +kernel) ?_
          have J : LI L xs u un (opEnd σ (xs (i + 1)) 1).2 (N + 12) := ⟨pR.frT (fun i hi => uF i (by omega) (by omega)), ⟨_, uR⟩, hT.fr (fun i hi => (uF i (by omega) (by omega)).trans (pF i (by omega) (by omega) (by omega))), iv_end hV, ⟨_, _, (uF 158 (by omega) (by omega)).trans pO⟩, (uF 0 (by omega) (by omega)).trans ((pF 0 (by omega) (by omega) (by omega)).trans hs), by omega⟩
          exact SW.pick [2, 3, 4, 5, 6] rfl ((K u un _ (by omega) J).bud (by omega) (by omega))
        · refine sw_aload_n (pc' := 2667) rfl dL_law_2666 rfl ?_
          refine sw_getN (ci := 5) (k := 0) (pc' := 2670) rfl dL_law_2667 (by decide +kernel) v_347 ((uF 158 (by omega) (by omega)).trans pO) (by show 100 ≤ _; omega) rfl ?_
          refine sw_iload (pc' := 2672) rfl dL_law_2670 rfl ?_
          refine sw_i2l (pc' := 2673) rfl dL_law_2672 ?_
          refine sw_lcmp (pc' := 2674) rfl dL_law_2673 ?_
          refine sw_if_eq (pc' := 2677) (tgt := 2679) rfl dL_law_2674 (by decide +kernel) (fun c2674 => ?_) (fun c2674 => ?_)
          · refine sw_goto (tgt := 3123) dL_law_2679 (by decide +kernel) ?_
            have J : LI L xs u un (opEnd σ (xs (i + 1)) 1).2 (N + 12) := ⟨pR.frT (fun i hi => uF i (by omega) (by omega)), ⟨_, uR⟩, hT.fr (fun i hi => (uF i (by omega) (by omega)).trans (pF i (by omega) (by omega) (by omega))), iv_end hV, ⟨_, _, (uF 158 (by omega) (by omega)).trans pO⟩, (uF 0 (by omega) (by omega)).trans ((pF 0 (by omega) (by omega) (by omega)).trans hs), by omega⟩
            exact SW.pick [2, 3, 4, 5, 6] rfl ((K u un _ (by omega) J).bud (by omega) (by omega))
          · obtain ⟨v9, e9⟩ := ox_0 ox_end c2663
            exact absurd (by rw [pv v9 e9, uv v9 e9]; exact lg_self _) c2674
      · exact absurd rfl c2656
theorem lc_35 {L : Nat} {xs : Nat → Int32} {h : AH} {n i N d bc bs : Nat} {σ : CS} {Post : ARes → AH → Nat → Prop} (hI : LI L xs h n σ N) (hN : N < 2 ^ 31) (hL : L ≤ 3072) (hi : i + 6 ≤ L) (hd : 20 ≤ d) (h1 : 380 ≤ bc) (h2 : 4500 ≤ bs) (K : ∀ (h' : AH) (n' : Nat) (σ' : CS), n ≤ n' → LI L xs h' n' σ' (N + 12) → SW SR0 ML_law d (bc - 380) (bs - 4500) 3123 [(4, .int (nI i)), (3, .ref 158), (2, .ref 135), (1, .ref 100), (0, .ref 0)] [] h' n' Post) : SW SR0 ML_law d bc bs 2682 [(4, .int (nI i)), (3, .ref 158), (2, .ref 135), (1, .ref 100), (0, .ref 0)] [] h n Post := by
  obtain ⟨hR, ⟨th, hQ⟩, hT, hV, ⟨w, s, hO⟩, hs, hn⟩ := hI
  refine sw_aload_n (pc' := 2683) rfl dL_law_2682 rfl ?_
  refine sw_aload_n (pc' := 2684) rfl dL_law_2683 rfl ?_
  refine sw_iload (pc' := 2686) rfl dL_law_2684 rfl ?_
  refine sw_iconst (pc' := 2687) (v := 1) rfl dL_law_2686 (by decide +kernel) ?_
  refine sw_iadd (pc' := 2688) rfl dL_law_2687 ?_
  rw [show (nI i) + 1 = nI (i + 1) from nI_add _ _]
  refine sw_iald (j := i + 1) (pc' := 2689) rfl dL_law_2688 hs rfl (by omega) (by omega) ?_
  refine sw_aload_n (pc' := 2690) rfl dL_law_2689 rfl ?_
  refine sw_S (M' := ML_code) (d' := d - 1) (bc' := 60) (bs' := 400) (as := [_, _, _]) dL_law_2690 w_1069 ok_L_code (L_code hR hT hV hN hO hn (by omega) (Nat.le_refl _) (Nat.le_refl _)) (by omega) (Nat.le_of_ble_eq_true rfl) (by omega) (by omega) (fun E h' n' _ z => lpo_x z) (lpo_k (fun p pn pw ps pk pR pO pv pF => ?_))
  refine sw_istore (pc' := 2695) (lv' := [(5, _), (4, _), (3, _), (2, _), (1, _), (0, _)]) rfl dL_law_2693 (by decide +kernel) rfl ?_
  refine sw_aload_n (pc' := 2696) rfl dL_law_2695 rfl ?_
  refine sw_aload_n (pc' := 2697) rfl dL_law_2696 rfl ?_
  refine sw_iload (pc' := 2699) rfl dL_law_2697 rfl ?_
  refine sw_iconst (pc' := 2700) (v := 1) rfl dL_law_2699 (by decide +kernel) ?_
  refine sw_iadd (pc' := 2701) rfl dL_law_2700 ?_
  rw [show (nI i) + 1 = nI (i + 1) from nI_add _ _]
  refine sw_iald (j := i + 1) (pc' := 2702) rfl dL_law_2701 ((pF 0 (by omega) (by omega) (by omega)).trans hs) rfl (by omega) (by omega) ?_
  have hQ2 := hQ.fr (fun i a b => pF i (by omega) (by omega) (by omega))
  obtain ⟨ρ, τ, hM, hA⟩ := id hQ2
  refine sw_V (M' := MX5_code) (d' := d - 1) (bc' := 1) (bs' := 12) (ci := 6) (as := [_]) dL_law_2702 w_1439 ok_X5_code (q_code hQ2 (hV.iv hN) (by omega) (by omega) (Nat.le_refl _) (Nat.le_refl _)) hM.ob rfl (by omega) (Nat.le_of_ble_eq_true rfl) (by omega) (by omega) (fun E h' n' _ z => pmc_x z) (pmc_k ox_code (fun u un ub uk uv uR uF => ?_))
  refine sw_istore (pc' := 2707) (lv' := [(6, _), (5, _), (4, _), (3, _), (2, _), (1, _), (0, _)]) rfl dL_law_2705 (by decide +kernel) rfl ?_
  refine sw_aload_n (pc' := 2708) rfl dL_law_2707 rfl ?_
  obtain ⟨uρ, uτ, uM, uA⟩ := id uR
  refine sw_V (M' := MX5_thrown) (d' := d - 1) (bc' := 0) (bs' := 0) (ci := 6) (as := []) dL_law_2708 w_1157 ok_X5_thrown (q_thrown uM) uM.ob rfl (by omega) (Nat.le_of_ble_eq_true rfl) (Nat.zero_le _) (Nat.zero_le _) (fun E h' n' _ z => det_x z) (det_k ?_)
  refine sw_iload (pc' := 2713) rfl dL_law_2711 rfl ?_
  refine sw_icmp_eq (pc' := 2716) (tgt := 2718) rfl dL_law_2713 (by decide +kernel) (fun c2713 => ?_) (fun c2713 => ?_)
  · refine sw_iload (pc' := 2720) rfl dL_law_2718 rfl ?_
    refine sw_if_ne (pc' := 2723) (tgt := 2736) rfl dL_law_2720 (by decide +kernel) (fun c2720 => ?_) (fun c2720 => ?_)
    · refine sw_goto (tgt := 3123) dL_law_2736 (by decide +kernel) ?_
      have J : LI L xs u un (opCode σ (xs (i + 1))).2 (N + 12) := ⟨pR.frT (fun i hi => uF i (by omega) (by omega)), ⟨_, uR⟩, hT.fr (fun i hi => (uF i (by omega) (by omega)).trans (pF i (by omega) (by omega) (by omega))), iv_code hV, ⟨_, _, (uF 158 (by omega) (by omega)).trans pO⟩, (uF 0 (by omega) (by omega)).trans ((pF 0 (by omega) (by omega) (by omega)).trans hs), by omega⟩
      exact SW.pick [2, 3, 4, 5, 6] rfl ((K u un _ (by omega) J).bud (by omega) (by omega))
    · refine sw_aload_n (pc' := 2724) rfl dL_law_2723 rfl ?_
      refine sw_getN (ci := 5) (k := 0) (pc' := 2727) rfl dL_law_2724 (by decide +kernel) v_347 ((uF 158 (by omega) (by omega)).trans pO) (by show 100 ≤ _; omega) rfl ?_
      refine sw_iload (pc' := 2729) rfl dL_law_2727 rfl ?_
      refine sw_i2l (pc' := 2730) rfl dL_law_2729 ?_
      refine sw_lcmp (pc' := 2731) rfl dL_law_2730 ?_
      refine sw_if_eq (pc' := 2734) (tgt := 2736) rfl dL_law_2731 (by decide +kernel) (fun c2731 => ?_) (fun c2731 => ?_)
      · refine sw_goto (tgt := 3123) dL_law_2736 (by decide +kernel) ?_
        have J : LI L xs u un (opCode σ (xs (i + 1))).2 (N + 12) := ⟨pR.frT (fun i hi => uF i (by omega) (by omega)), ⟨_, uR⟩, hT.fr (fun i hi => (uF i (by omega) (by omega)).trans (pF i (by omega) (by omega) (by omega))), iv_code hV, ⟨_, _, (uF 158 (by omega) (by omega)).trans pO⟩, (uF 0 (by omega) (by omega)).trans ((pF 0 (by omega) (by omega) (by omega)).trans hs), by omega⟩
        exact SW.pick [2, 3, 4, 5, 6] rfl ((K u un _ (by omega) J).bud (by omega) (by omega))
      · obtain ⟨v9, e9⟩ := ox_0 ox_code c2720
        exact absurd (by rw [pv v9 e9, uv v9 e9]; exact lg_self _) c2731
  · exact absurd rfl c2713
theorem lc_36 {L : Nat} {xs : Nat → Int32} {h : AH} {n i N d bc bs : Nat} {σ : CS} {Post : ARes → AH → Nat → Prop} (hI : LI L xs h n σ N) (hN : N < 2 ^ 31) (hL : L ≤ 3072) (hi : i + 6 ≤ L) (hd : 20 ≤ d) (h1 : 380 ≤ bc) (h2 : 4500 ≤ bs) (K : ∀ (h' : AH) (n' : Nat) (σ' : CS), n ≤ n' → LI L xs h' n' σ' (N + 12) → SW SR0 ML_law d (bc - 380) (bs - 4500) 3123 [(4, .int (nI i)), (3, .ref 158), (2, .ref 135), (1, .ref 100), (0, .ref 0)] [] h' n' Post) : SW SR0 ML_law d bc bs 2739 [(4, .int (nI i)), (3, .ref 158), (2, .ref 135), (1, .ref 100), (0, .ref 0)] [] h n Post := by
  obtain ⟨hR, ⟨th, hQ⟩, hT, hV, ⟨w, s, hO⟩, hs, hn⟩ := hI
  refine sw_aload_n (pc' := 2740) rfl dL_law_2739 rfl ?_
  refine sw_aload_n (pc' := 2741) rfl dL_law_2740 rfl ?_
  refine sw_iload (pc' := 2743) rfl dL_law_2741 rfl ?_
  refine sw_iconst (pc' := 2744) (v := 1) rfl dL_law_2743 (by decide +kernel) ?_
  refine sw_iadd (pc' := 2745) rfl dL_law_2744 ?_
  rw [show (nI i) + 1 = nI (i + 1) from nI_add _ _]
  refine sw_iald (j := i + 1) (pc' := 2746) rfl dL_law_2745 hs rfl (by omega) (by omega) ?_
  refine sw_aload_n (pc' := 2747) rfl dL_law_2746 rfl ?_
  refine sw_iload (pc' := 2749) rfl dL_law_2747 rfl ?_
  refine sw_iconst (pc' := 2750) (v := 2) rfl dL_law_2749 (by decide +kernel) ?_
  refine sw_iadd (pc' := 2751) rfl dL_law_2750 ?_
  rw [show (nI i) + 2 = nI (i + 2) from nI_add _ _]
  refine sw_iald (j := i + 2) (pc' := 2752) rfl dL_law_2751 hs rfl (by omega) (by omega) ?_
  refine sw_aload_n (pc' := 2753) rfl dL_law_2752 rfl ?_
  refine sw_S (M' := ML_areAlike) (d' := d - 1) (bc' := 60) (bs' := 400) (as := [_, _, _, _]) dL_law_2753 w_1076 ok_L_areAlike (L_areAlike hR hT hV hN hO hn (by omega) (Nat.le_refl _) (Nat.le_refl _)) (by omega) (Nat.le_of_ble_eq_true rfl) (by omega) (by omega) (fun E h' n' _ z => lpo_x z) (lpo_k (fun p pn pw ps pk pR pO pv pF => ?_))
  refine sw_istore (pc' := 2758) (lv' := [(5, _), (4, _), (3, _), (2, _), (1, _), (0, _)]) rfl dL_law_2756 (by decide +kernel) rfl ?_
  refine sw_aload_n (pc' := 2759) rfl dL_law_2758 rfl ?_
  refine sw_aload_n (pc' := 2760) rfl dL_law_2759 rfl ?_
  refine sw_iload (pc' := 2762) rfl dL_law_2760 rfl ?_
  refine sw_iconst (pc' := 2763) (v := 1) rfl dL_law_2762 (by decide +kernel) ?_
  refine sw_iadd (pc' := 2764) rfl dL_law_2763 ?_
  rw [show (nI i) + 1 = nI (i + 1) from nI_add _ _]
  refine sw_iald (j := i + 1) (pc' := 2765) rfl dL_law_2764 ((pF 0 (by omega) (by omega) (by omega)).trans hs) rfl (by omega) (by omega) ?_
  refine sw_aload_n (pc' := 2766) rfl dL_law_2765 rfl ?_
  refine sw_iload (pc' := 2768) rfl dL_law_2766 rfl ?_
  refine sw_iconst (pc' := 2769) (v := 2) rfl dL_law_2768 (by decide +kernel) ?_
  refine sw_iadd (pc' := 2770) rfl dL_law_2769 ?_
  rw [show (nI i) + 2 = nI (i + 2) from nI_add _ _]
  refine sw_iald (j := i + 2) (pc' := 2771) rfl dL_law_2770 ((pF 0 (by omega) (by omega) (by omega)).trans hs) rfl (by omega) (by omega) ?_
  have hQ2 := hQ.fr (fun i a b => pF i (by omega) (by omega) (by omega))
  obtain ⟨ρ, τ, hM, hA⟩ := id hQ2
  refine sw_V (M' := MX5_areAlike) (d' := d - 1) (bc' := 1) (bs' := 12) (ci := 6) (as := [_, _]) dL_law_2771 w_1443 ok_X5_areAlike (q_areAlike hQ2 (hV.iv hN) (by omega) (by omega) (Nat.le_refl _) (Nat.le_refl _)) hM.ob rfl (by omega) (Nat.le_of_ble_eq_true rfl) (by omega) (by omega) (fun E h' n' _ z => pmc_x z) (pmc_k ox_areAlike (fun u un ub uk uv uR uF => ?_))
  refine sw_istore (pc' := 2776) (lv' := [(6, _), (5, _), (4, _), (3, _), (2, _), (1, _), (0, _)]) rfl dL_law_2774 (by decide +kernel) rfl ?_
  refine sw_aload_n (pc' := 2777) rfl dL_law_2776 rfl ?_
  obtain ⟨uρ, uτ, uM, uA⟩ := id uR
  refine sw_V (M' := MX5_thrown) (d' := d - 1) (bc' := 0) (bs' := 0) (ci := 6) (as := []) dL_law_2777 w_1157 ok_X5_thrown (q_thrown uM) uM.ob rfl (by omega) (Nat.le_of_ble_eq_true rfl) (Nat.zero_le _) (Nat.zero_le _) (fun E h' n' _ z => det_x z) (det_k ?_)
  refine sw_iload (pc' := 2782) rfl dL_law_2780 rfl ?_
  refine sw_icmp_eq (pc' := 2785) (tgt := 2787) rfl dL_law_2782 (by decide +kernel) (fun c2782 => ?_) (fun c2782 => ?_)
  · refine sw_iload (pc' := 2789) rfl dL_law_2787 rfl ?_
    refine sw_if_ne (pc' := 2792) (tgt := 2812) rfl dL_law_2789 (by decide +kernel) (fun c2789 => ?_) (fun c2789 => ?_)
    · refine sw_goto (tgt := 3123) dL_law_2812 (by decide +kernel) ?_
      have J : LI L xs u un (opAreAlike σ (xs (i + 1)) (xs (i + 2))).2 (N + 12) := ⟨pR.frT (fun i hi => uF i (by omega) (by omega)), ⟨_, uR⟩, hT.fr (fun i hi => (uF i (by omega) (by omega)).trans (pF i (by omega) (by omega) (by omega))), iv_areAlike hV, ⟨_, _, (uF 158 (by omega) (by omega)).trans pO⟩, (uF 0 (by omega) (by omega)).trans ((pF 0 (by omega) (by omega) (by omega)).trans hs), by omega⟩
      exact SW.pick [2, 3, 4, 5, 6] rfl ((K u un _ (by omega) J).bud (by omega) (by omega))
    · refine sw_aload_n (pc' := 2793) rfl dL_law_2792 rfl ?_
      refine sw_getN (ci := 5) (k := 0) (pc' := 2796) rfl dL_law_2793 (by decide +kernel) v_347 ((uF 158 (by omega) (by omega)).trans pO) (by show 100 ≤ _; omega) rfl ?_
      refine sw_iload (pc' := 2798) rfl dL_law_2796 rfl ?_
      refine sw_if_eq (pc' := 2801) (tgt := 2805) rfl dL_law_2798 (by decide +kernel) (fun c2798 => ?_) (fun c2798 => ?_)
      · refine sw_lconst (pc' := 2806) (v := 0) rfl dL_law_2805 (by decide +kernel) ?_
        refine sw_lcmp (pc' := 2807) rfl dL_law_2806 ?_
        refine sw_if_eq (pc' := 2810) (tgt := 2812) rfl dL_law_2807 (by decide +kernel) (fun c2807 => ?_) (fun c2807 => ?_)
        · refine sw_goto (tgt := 3123) dL_law_2812 (by decide +kernel) ?_
          have J : LI L xs u un (opAreAlike σ (xs (i + 1)) (xs (i + 2))).2 (N + 12) := ⟨pR.frT (fun i hi => uF i (by omega) (by omega)), ⟨_, uR⟩, hT.fr (fun i hi => (uF i (by omega) (by omega)).trans (pF i (by omega) (by omega) (by omega))), iv_areAlike hV, ⟨_, _, (uF 158 (by omega) (by omega)).trans pO⟩, (uF 0 (by omega) (by omega)).trans ((pF 0 (by omega) (by omega) (by omega)).trans hs), by omega⟩
          exact SW.pick [2, 3, 4, 5, 6] rfl ((K u un _ (by omega) J).bud (by omega) (by omega))
        · obtain ⟨v9, e9⟩ := ox_0 ox_areAlike c2789
          have e8 := uv v9 e9
          exact absurd (by rw [pv v9 e9, ← e8, c2798]; decide) c2807
      · refine sw_lconst (pc' := 2802) (v := 1) rfl dL_law_2801 (by decide +kernel) ?_
        refine sw_goto (tgt := 2806) dL_law_2802 (by decide +kernel) ?_
        refine sw_lcmp (pc' := 2807) rfl dL_law_2806 ?_
        refine sw_if_eq (pc' := 2810) (tgt := 2812) rfl dL_law_2807 (by decide +kernel) (fun c2807 => ?_) (fun c2807 => ?_)
        · refine sw_goto (tgt := 3123) dL_law_2812 (by decide +kernel) ?_
          have J : LI L xs u un (opAreAlike σ (xs (i + 1)) (xs (i + 2))).2 (N + 12) := ⟨pR.frT (fun i hi => uF i (by omega) (by omega)), ⟨_, uR⟩, hT.fr (fun i hi => (uF i (by omega) (by omega)).trans (pF i (by omega) (by omega) (by omega))), iv_areAlike hV, ⟨_, _, (uF 158 (by omega) (by omega)).trans pO⟩, (uF 0 (by omega) (by omega)).trans ((pF 0 (by omega) (by omega) (by omega)).trans hs), by omega⟩
          exact SW.pick [2, 3, 4, 5, 6] rfl ((K u un _ (by omega) J).bud (by omega) (by omega))
        · obtain ⟨v9, e9⟩ := ox_0 ox_areAlike c2789
          have e8 := uv v9 e9
          exact (bo_areAlike e9).elim (fun e => absurd (e8.trans e) c2798) (fun e => absurd (by rw [pv v9 e9, e]; decide) c2807)
  · exact absurd rfl c2782
theorem lc_37 {L : Nat} {xs : Nat → Int32} {h : AH} {n i N d bc bs : Nat} {σ : CS} {Post : ARes → AH → Nat → Prop} (hI : LI L xs h n σ N) (hN : N < 2 ^ 31) (hL : L ≤ 3072) (hi : i + 6 ≤ L) (hd : 20 ≤ d) (h1 : 380 ≤ bc) (h2 : 4500 ≤ bs) (K : ∀ (h' : AH) (n' : Nat) (σ' : CS), n ≤ n' → LI L xs h' n' σ' (N + 12) → SW SR0 ML_law d (bc - 380) (bs - 4500) 3123 [(4, .int (nI i)), (3, .ref 158), (2, .ref 135), (1, .ref 100), (0, .ref 0)] [] h' n' Post) : SW SR0 ML_law d bc bs 2815 [(4, .int (nI i)), (3, .ref 158), (2, .ref 135), (1, .ref 100), (0, .ref 0)] [] h n Post := by
  obtain ⟨hR, ⟨th, hQ⟩, hT, hV, ⟨w, s, hO⟩, hs, hn⟩ := hI
  refine sw_aload_n (pc' := 2816) rfl dL_law_2815 rfl ?_
  refine sw_aload_n (pc' := 2817) rfl dL_law_2816 rfl ?_
  refine sw_iload (pc' := 2819) rfl dL_law_2817 rfl ?_
  refine sw_iconst (pc' := 2820) (v := 1) rfl dL_law_2819 (by decide +kernel) ?_
  refine sw_iadd (pc' := 2821) rfl dL_law_2820 ?_
  rw [show (nI i) + 1 = nI (i + 1) from nI_add _ _]
  refine sw_iald (j := i + 1) (pc' := 2822) rfl dL_law_2821 hs rfl (by omega) (by omega) ?_
  refine sw_aload_n (pc' := 2823) rfl dL_law_2822 rfl ?_
  refine sw_iload (pc' := 2825) rfl dL_law_2823 rfl ?_
  refine sw_iconst (pc' := 2826) (v := 2) rfl dL_law_2825 (by decide +kernel) ?_
  refine sw_iadd (pc' := 2827) rfl dL_law_2826 ?_
  rw [show (nI i) + 2 = nI (i + 2) from nI_add _ _]
  refine sw_iald (j := i + 2) (pc' := 2828) rfl dL_law_2827 hs rfl (by omega) (by omega) ?_
  refine sw_if_eq (pc' := 2831) (tgt := 2835) rfl dL_law_2828 (by decide +kernel) (fun c2828 => ?_) (fun c2828 => ?_)
  · refine sw_iconst (pc' := 2836) (v := 0) rfl dL_law_2835 (by decide +kernel) ?_
    refine sw_aload_n (pc' := 2837) rfl dL_law_2836 rfl ?_
    refine sw_S (M' := ML_first) (d' := d - 1) (bc' := 60) (bs' := 400) (as := [_, _, _, _]) dL_law_2837 w_1083 ok_L_first (L_first hR hT hV hN hO hn (by omega) (Nat.le_refl _) (Nat.le_refl _)) (by omega) (Nat.le_of_ble_eq_true rfl) (by omega) (by omega) (fun E h' n' _ z => lpo_x z) (lpo_k (fun p pn pw ps pk pR pO pv pF => ?_))
    refine sw_istore (pc' := 2842) (lv' := [(5, _), (4, _), (3, _), (2, _), (1, _), (0, _)]) rfl dL_law_2840 (by decide +kernel) rfl ?_
    refine sw_aload_n (pc' := 2843) rfl dL_law_2842 rfl ?_
    refine sw_aload_n (pc' := 2844) rfl dL_law_2843 rfl ?_
    refine sw_iload (pc' := 2846) rfl dL_law_2844 rfl ?_
    refine sw_iconst (pc' := 2847) (v := 1) rfl dL_law_2846 (by decide +kernel) ?_
    refine sw_iadd (pc' := 2848) rfl dL_law_2847 ?_
    rw [show (nI i) + 1 = nI (i + 1) from nI_add _ _]
    refine sw_iald (j := i + 1) (pc' := 2849) rfl dL_law_2848 ((pF 0 (by omega) (by omega) (by omega)).trans hs) rfl (by omega) (by omega) ?_
    refine sw_aload_n (pc' := 2850) rfl dL_law_2849 rfl ?_
    refine sw_iload (pc' := 2852) rfl dL_law_2850 rfl ?_
    refine sw_iconst (pc' := 2853) (v := 2) rfl dL_law_2852 (by decide +kernel) ?_
    refine sw_iadd (pc' := 2854) rfl dL_law_2853 ?_
    rw [show (nI i) + 2 = nI (i + 2) from nI_add _ _]
    refine sw_iald (j := i + 2) (pc' := 2855) rfl dL_law_2854 ((pF 0 (by omega) (by omega) (by omega)).trans hs) rfl (by omega) (by omega) ?_
    refine sw_if_eq (pc' := 2858) (tgt := 2862) rfl dL_law_2855 (by decide +kernel) (fun c2855 => ?_) (fun c2855 => ?_)
    · refine sw_iconst (pc' := 2863) (v := 0) rfl dL_law_2862 (by decide +kernel) ?_
      have hQ2 := hQ.fr (fun i a b => pF i (by omega) (by omega) (by omega))
      obtain ⟨ρ, τ, hM, hA⟩ := id hQ2
      refine sw_V (M' := MX5_first) (d' := d - 1) (bc' := 1) (bs' := 12) (ci := 6) (as := [_, _]) dL_law_2863 w_1447 ok_X5_first (q_first hQ2 (hV.iv hN) (by omega) (by omega) (Nat.le_refl _) (Nat.le_refl _)) hM.ob rfl (by omega) (Nat.le_of_ble_eq_true rfl) (by omega) (by omega) (fun E h' n' _ z => pmc_x z) (pmc_k ox_first (fun u un ub uk uv uR uF => ?_))
      refine sw_istore (pc' := 2868) (lv' := [(6, _), (5, _), (4, _), (3, _), (2, _), (1, _), (0, _)]) rfl dL_law_2866 (by decide +kernel) rfl ?_
      refine sw_aload_n (pc' := 2869) rfl dL_law_2868 rfl ?_
      obtain ⟨uρ, uτ, uM, uA⟩ := id uR
      refine sw_V (M' := MX5_thrown) (d' := d - 1) (bc' := 0) (bs' := 0) (ci := 6) (as := []) dL_law_2869 w_1157 ok_X5_thrown (q_thrown uM) uM.ob rfl (by omega) (Nat.le_of_ble_eq_true rfl) (Nat.zero_le _) (Nat.zero_le _) (fun E h' n' _ z => det_x z) (det_k ?_)
      refine sw_iload (pc' := 2874) rfl dL_law_2872 rfl ?_
      refine sw_icmp_eq (pc' := 2877) (tgt := 2879) rfl dL_law_2874 (by decide +kernel) (fun c2874 => ?_) (fun c2874 => ?_)
      · refine sw_iload (pc' := 2881) rfl dL_law_2879 rfl ?_
        refine sw_if_ne (pc' := 2884) (tgt := 2897) rfl dL_law_2881 (by decide +kernel) (fun c2881 => ?_) (fun c2881 => ?_)
        · refine sw_goto (tgt := 3123) dL_law_2897 (by decide +kernel) ?_
          have J : LI L xs u un (opFirst σ (xs (i + 1)) 0).2 (N + 12) := ⟨pR.frT (fun i hi => uF i (by omega) (by omega)), ⟨_, uR⟩, hT.fr (fun i hi => (uF i (by omega) (by omega)).trans (pF i (by omega) (by omega) (by omega))), iv_first hV, ⟨_, _, (uF 158 (by omega) (by omega)).trans pO⟩, (uF 0 (by omega) (by omega)).trans ((pF 0 (by omega) (by omega) (by omega)).trans hs), by omega⟩
          exact SW.pick [2, 3, 4, 5, 6] rfl ((K u un _ (by omega) J).bud (by omega) (by omega))
        · refine sw_aload_n (pc' := 2885) rfl dL_law_2884 rfl ?_
          refine sw_getN (ci := 5) (k := 0) (pc' := 2888) rfl dL_law_2885 (by decide +kernel) v_347 ((uF 158 (by omega) (by omega)).trans pO) (by show 100 ≤ _; omega) rfl ?_
          refine sw_iload (pc' := 2890) rfl dL_law_2888 rfl ?_
          refine sw_i2l (pc' := 2891) rfl dL_law_2890 ?_
          refine sw_lcmp (pc' := 2892) rfl dL_law_2891 ?_
          refine sw_if_eq (pc' := 2895) (tgt := 2897) rfl dL_law_2892 (by decide +kernel) (fun c2892 => ?_) (fun c2892 => ?_)
          · refine sw_goto (tgt := 3123) dL_law_2897 (by decide +kernel) ?_
            have J : LI L xs u un (opFirst σ (xs (i + 1)) 0).2 (N + 12) := ⟨pR.frT (fun i hi => uF i (by omega) (by omega)), ⟨_, uR⟩, hT.fr (fun i hi => (uF i (by omega) (by omega)).trans (pF i (by omega) (by omega) (by omega))), iv_first hV, ⟨_, _, (uF 158 (by omega) (by omega)).trans pO⟩, (uF 0 (by omega) (by omega)).trans ((pF 0 (by omega) (by omega) (by omega)).trans hs), by omega⟩
            exact SW.pick [2, 3, 4, 5, 6] rfl ((K u un _ (by omega) J).bud (by omega) (by omega))
          · obtain ⟨v9, e9⟩ := ox_0 ox_first c2881
            exact absurd (by rw [pv v9 e9, uv v9 e9]; exact lg_self _) c2892
      · exact absurd rfl c2874
    · exact absurd c2828 c2855
  · refine sw_iconst (pc' := 2832) (v := 1) rfl dL_law_2831 (by decide +kernel) ?_
    refine sw_goto (tgt := 2836) dL_law_2832 (by decide +kernel) ?_
    refine sw_aload_n (pc' := 2837) rfl dL_law_2836 rfl ?_
    refine sw_S (M' := ML_first) (d' := d - 1) (bc' := 60) (bs' := 400) (as := [_, _, _, _]) dL_law_2837 w_1083 ok_L_first (L_first hR hT hV hN hO hn (by omega) (Nat.le_refl _) (Nat.le_refl _)) (by omega) (Nat.le_of_ble_eq_true rfl) (by omega) (by omega) (fun E h' n' _ z => lpo_x z) (lpo_k (fun p pn pw ps pk pR pO pv pF => ?_))
    refine sw_istore (pc' := 2842) (lv' := [(5, _), (4, _), (3, _), (2, _), (1, _), (0, _)]) rfl dL_law_2840 (by decide +kernel) rfl ?_
    refine sw_aload_n (pc' := 2843) rfl dL_law_2842 rfl ?_
    refine sw_aload_n (pc' := 2844) rfl dL_law_2843 rfl ?_
    refine sw_iload (pc' := 2846) rfl dL_law_2844 rfl ?_
    refine sw_iconst (pc' := 2847) (v := 1) rfl dL_law_2846 (by decide +kernel) ?_
    refine sw_iadd (pc' := 2848) rfl dL_law_2847 ?_
    rw [show (nI i) + 1 = nI (i + 1) from nI_add _ _]
    refine sw_iald (j := i + 1) (pc' := 2849) rfl dL_law_2848 ((pF 0 (by omega) (by omega) (by omega)).trans hs) rfl (by omega) (by omega) ?_
    refine sw_aload_n (pc' := 2850) rfl dL_law_2849 rfl ?_
    refine sw_iload (pc' := 2852) rfl dL_law_2850 rfl ?_
    refine sw_iconst (pc' := 2853) (v := 2) rfl dL_law_2852 (by decide +kernel) ?_
    refine sw_iadd (pc' := 2854) rfl dL_law_2853 ?_
    rw [show (nI i) + 2 = nI (i + 2) from nI_add _ _]
    refine sw_iald (j := i + 2) (pc' := 2855) rfl dL_law_2854 ((pF 0 (by omega) (by omega) (by omega)).trans hs) rfl (by omega) (by omega) ?_
    refine sw_if_eq (pc' := 2858) (tgt := 2862) rfl dL_law_2855 (by decide +kernel) (fun c2855 => ?_) (fun c2855 => ?_)
    · exact absurd c2855 c2828
    · refine sw_iconst (pc' := 2859) (v := 1) rfl dL_law_2858 (by decide +kernel) ?_
      refine sw_goto (tgt := 2863) dL_law_2859 (by decide +kernel) ?_
      have hQ2 := hQ.fr (fun i a b => pF i (by omega) (by omega) (by omega))
      obtain ⟨ρ, τ, hM, hA⟩ := id hQ2
      refine sw_V (M' := MX5_first) (d' := d - 1) (bc' := 1) (bs' := 12) (ci := 6) (as := [_, _]) dL_law_2863 w_1447 ok_X5_first (q_first hQ2 (hV.iv hN) (by omega) (by omega) (Nat.le_refl _) (Nat.le_refl _)) hM.ob rfl (by omega) (Nat.le_of_ble_eq_true rfl) (by omega) (by omega) (fun E h' n' _ z => pmc_x z) (pmc_k ox_first (fun u un ub uk uv uR uF => ?_))
      refine sw_istore (pc' := 2868) (lv' := [(6, _), (5, _), (4, _), (3, _), (2, _), (1, _), (0, _)]) rfl dL_law_2866 (by decide +kernel) rfl ?_
      refine sw_aload_n (pc' := 2869) rfl dL_law_2868 rfl ?_
      obtain ⟨uρ, uτ, uM, uA⟩ := id uR
      refine sw_V (M' := MX5_thrown) (d' := d - 1) (bc' := 0) (bs' := 0) (ci := 6) (as := []) dL_law_2869 w_1157 ok_X5_thrown (q_thrown uM) uM.ob rfl (by omega) (Nat.le_of_ble_eq_true rfl) (Nat.zero_le _) (Nat.zero_le _) (fun E h' n' _ z => det_x z) (det_k ?_)
      refine sw_iload (pc' := 2874) rfl dL_law_2872 rfl ?_
      refine sw_icmp_eq (pc' := 2877) (tgt := 2879) rfl dL_law_2874 (by decide +kernel) (fun c2874 => ?_) (fun c2874 => ?_)
      · refine sw_iload (pc' := 2881) rfl dL_law_2879 rfl ?_
        refine sw_if_ne (pc' := 2884) (tgt := 2897) rfl dL_law_2881 (by decide +kernel) (fun c2881 => ?_) (fun c2881 => ?_)
        · refine sw_goto (tgt := 3123) dL_law_2897 (by decide +kernel) ?_
          have J : LI L xs u un (opFirst σ (xs (i + 1)) 1).2 (N + 12) := ⟨pR.frT (fun i hi => uF i (by omega) (by omega)), ⟨_, uR⟩, hT.fr (fun i hi => (uF i (by omega) (by omega)).trans (pF i (by omega) (by omega) (by omega))), iv_first hV, ⟨_, _, (uF 158 (by omega) (by omega)).trans pO⟩, (uF 0 (by omega) (by omega)).trans ((pF 0 (by omega) (by omega) (by omega)).trans hs), by omega⟩
          exact SW.pick [2, 3, 4, 5, 6] rfl ((K u un _ (by omega) J).bud (by omega) (by omega))
        · refine sw_aload_n (pc' := 2885) rfl dL_law_2884 rfl ?_
          refine sw_getN (ci := 5) (k := 0) (pc' := 2888) rfl dL_law_2885 (by decide +kernel) v_347 ((uF 158 (by omega) (by omega)).trans pO) (by show 100 ≤ _; omega) rfl ?_
          refine sw_iload (pc' := 2890) rfl dL_law_2888 rfl ?_
          refine sw_i2l (pc' := 2891) rfl dL_law_2890 ?_
          refine sw_lcmp (pc' := 2892) rfl dL_law_2891 ?_
          refine sw_if_eq (pc' := 2895) (tgt := 2897) rfl dL_law_2892 (by decide +kernel) (fun c2892 => ?_) (fun c2892 => ?_)
          · refine sw_goto (tgt := 3123) dL_law_2897 (by decide +kernel) ?_
            have J : LI L xs u un (opFirst σ (xs (i + 1)) 1).2 (N + 12) := ⟨pR.frT (fun i hi => uF i (by omega) (by omega)), ⟨_, uR⟩, hT.fr (fun i hi => (uF i (by omega) (by omega)).trans (pF i (by omega) (by omega) (by omega))), iv_first hV, ⟨_, _, (uF 158 (by omega) (by omega)).trans pO⟩, (uF 0 (by omega) (by omega)).trans ((pF 0 (by omega) (by omega) (by omega)).trans hs), by omega⟩
            exact SW.pick [2, 3, 4, 5, 6] rfl ((K u un _ (by omega) J).bud (by omega) (by omega))
          · obtain ⟨v9, e9⟩ := ox_0 ox_first c2881
            exact absurd (by rw [pv v9 e9, uv v9 e9]; exact lg_self _) c2892
      · exact absurd rfl c2874
theorem lc_38 {L : Nat} {xs : Nat → Int32} {h : AH} {n i N d bc bs : Nat} {σ : CS} {Post : ARes → AH → Nat → Prop} (hI : LI L xs h n σ N) (hN : N < 2 ^ 31) (hL : L ≤ 3072) (hi : i + 6 ≤ L) (hd : 20 ≤ d) (h1 : 380 ≤ bc) (h2 : 4500 ≤ bs) (K : ∀ (h' : AH) (n' : Nat) (σ' : CS), n ≤ n' → LI L xs h' n' σ' (N + 12) → SW SR0 ML_law d (bc - 380) (bs - 4500) 3123 [(4, .int (nI i)), (3, .ref 158), (2, .ref 135), (1, .ref 100), (0, .ref 0)] [] h' n' Post) : SW SR0 ML_law d bc bs 2900 [(4, .int (nI i)), (3, .ref 158), (2, .ref 135), (1, .ref 100), (0, .ref 0)] [] h n Post := by
  obtain ⟨hR, ⟨th, hQ⟩, hT, hV, ⟨w, s, hO⟩, hs, hn⟩ := hI
  refine sw_aload_n (pc' := 2901) rfl dL_law_2900 rfl ?_
  refine sw_aload_n (pc' := 2902) rfl dL_law_2901 rfl ?_
  refine sw_iload (pc' := 2904) rfl dL_law_2902 rfl ?_
  refine sw_iconst (pc' := 2905) (v := 1) rfl dL_law_2904 (by decide +kernel) ?_
  refine sw_iadd (pc' := 2906) rfl dL_law_2905 ?_
  rw [show (nI i) + 1 = nI (i + 1) from nI_add _ _]
  refine sw_iald (j := i + 1) (pc' := 2907) rfl dL_law_2906 hs rfl (by omega) (by omega) ?_
  refine sw_aload_n (pc' := 2908) rfl dL_law_2907 rfl ?_
  refine sw_S (M' := ML_valueOf) (d' := d - 1) (bc' := 60) (bs' := 400) (as := [_, _, _]) dL_law_2908 w_1090 ok_L_valueOf (L_valueOf hR hT hV hN hO hn (by omega) (Nat.le_refl _) (Nat.le_refl _)) (by omega) (Nat.le_of_ble_eq_true rfl) (by omega) (by omega) (fun E h' n' _ z => lpo_x z) (lpo_k (fun p pn pw ps pk pR pO pv pF => ?_))
  refine sw_istore (pc' := 2913) (lv' := [(5, _), (4, _), (3, _), (2, _), (1, _), (0, _)]) rfl dL_law_2911 (by decide +kernel) rfl ?_
  refine sw_aload_n (pc' := 2914) rfl dL_law_2913 rfl ?_
  refine sw_aload_n (pc' := 2915) rfl dL_law_2914 rfl ?_
  refine sw_iload (pc' := 2917) rfl dL_law_2915 rfl ?_
  refine sw_iconst (pc' := 2918) (v := 1) rfl dL_law_2917 (by decide +kernel) ?_
  refine sw_iadd (pc' := 2919) rfl dL_law_2918 ?_
  rw [show (nI i) + 1 = nI (i + 1) from nI_add _ _]
  refine sw_iald (j := i + 1) (pc' := 2920) rfl dL_law_2919 ((pF 0 (by omega) (by omega) (by omega)).trans hs) rfl (by omega) (by omega) ?_
  have hQ2 := hQ.fr (fun i a b => pF i (by omega) (by omega) (by omega))
  obtain ⟨ρ, τ, hM, hA⟩ := id hQ2
  refine sw_V (M' := MX5_valueOf) (d' := d - 1) (bc' := 1) (bs' := 12) (ci := 6) (as := [_]) dL_law_2920 w_1451 ok_X5_valueOf (q_valueOf hQ2 (hV.iv hN) (by omega) (by omega) (Nat.le_refl _) (Nat.le_refl _)) hM.ob rfl (by omega) (Nat.le_of_ble_eq_true rfl) (by omega) (by omega) (fun E h' n' _ z => pmc_x z) (pmc_k ox_valueOf (fun u un ub uk uv uR uF => ?_))
  refine sw_istore (pc' := 2925) (lv' := [(6, _), (5, _), (4, _), (3, _), (2, _), (1, _), (0, _)]) rfl dL_law_2923 (by decide +kernel) rfl ?_
  refine sw_aload_n (pc' := 2926) rfl dL_law_2925 rfl ?_
  obtain ⟨uρ, uτ, uM, uA⟩ := id uR
  refine sw_V (M' := MX5_thrown) (d' := d - 1) (bc' := 0) (bs' := 0) (ci := 6) (as := []) dL_law_2926 w_1157 ok_X5_thrown (q_thrown uM) uM.ob rfl (by omega) (Nat.le_of_ble_eq_true rfl) (Nat.zero_le _) (Nat.zero_le _) (fun E h' n' _ z => det_x z) (det_k ?_)
  refine sw_iload (pc' := 2931) rfl dL_law_2929 rfl ?_
  refine sw_icmp_eq (pc' := 2934) (tgt := 2936) rfl dL_law_2931 (by decide +kernel) (fun c2931 => ?_) (fun c2931 => ?_)
  · refine sw_iload (pc' := 2938) rfl dL_law_2936 rfl ?_
    refine sw_if_ne (pc' := 2941) (tgt := 2954) rfl dL_law_2938 (by decide +kernel) (fun c2938 => ?_) (fun c2938 => ?_)
    · refine sw_goto (tgt := 3123) dL_law_2954 (by decide +kernel) ?_
      have J : LI L xs u un (opValueOf σ (xs (i + 1))).2 (N + 12) := ⟨pR.frT (fun i hi => uF i (by omega) (by omega)), ⟨_, uR⟩, hT.fr (fun i hi => (uF i (by omega) (by omega)).trans (pF i (by omega) (by omega) (by omega))), iv_valueOf hV, ⟨_, _, (uF 158 (by omega) (by omega)).trans pO⟩, (uF 0 (by omega) (by omega)).trans ((pF 0 (by omega) (by omega) (by omega)).trans hs), by omega⟩
      exact SW.pick [2, 3, 4, 5, 6] rfl ((K u un _ (by omega) J).bud (by omega) (by omega))
    · refine sw_aload_n (pc' := 2942) rfl dL_law_2941 rfl ?_
      refine sw_getN (ci := 5) (k := 0) (pc' := 2945) rfl dL_law_2942 (by decide +kernel) v_347 ((uF 158 (by omega) (by omega)).trans pO) (by show 100 ≤ _; omega) rfl ?_
      refine sw_iload (pc' := 2947) rfl dL_law_2945 rfl ?_
      refine sw_i2l (pc' := 2948) rfl dL_law_2947 ?_
      refine sw_lcmp (pc' := 2949) rfl dL_law_2948 ?_
      refine sw_if_eq (pc' := 2952) (tgt := 2954) rfl dL_law_2949 (by decide +kernel) (fun c2949 => ?_) (fun c2949 => ?_)
      · refine sw_goto (tgt := 3123) dL_law_2954 (by decide +kernel) ?_
        have J : LI L xs u un (opValueOf σ (xs (i + 1))).2 (N + 12) := ⟨pR.frT (fun i hi => uF i (by omega) (by omega)), ⟨_, uR⟩, hT.fr (fun i hi => (uF i (by omega) (by omega)).trans (pF i (by omega) (by omega) (by omega))), iv_valueOf hV, ⟨_, _, (uF 158 (by omega) (by omega)).trans pO⟩, (uF 0 (by omega) (by omega)).trans ((pF 0 (by omega) (by omega) (by omega)).trans hs), by omega⟩
        exact SW.pick [2, 3, 4, 5, 6] rfl ((K u un _ (by omega) J).bud (by omega) (by omega))
      · obtain ⟨v9, e9⟩ := ox_0 ox_valueOf c2938
        exact absurd (by rw [pv v9 e9, uv v9 e9]; exact lg_self _) c2949
  · exact absurd rfl c2931
theorem lc_39 {L : Nat} {xs : Nat → Int32} {h : AH} {n i N d bc bs : Nat} {σ : CS} {Post : ARes → AH → Nat → Prop} (hI : LI L xs h n σ N) (hN : N < 2 ^ 31) (hL : L ≤ 3072) (hi : i + 6 ≤ L) (hd : 20 ≤ d) (h1 : 380 ≤ bc) (h2 : 4500 ≤ bs) (K : ∀ (h' : AH) (n' : Nat) (σ' : CS), n ≤ n' → LI L xs h' n' σ' (N + 12) → SW SR0 ML_law d (bc - 380) (bs - 4500) 3123 [(4, .int (nI i)), (3, .ref 158), (2, .ref 135), (1, .ref 100), (0, .ref 0)] [] h' n' Post) : SW SR0 ML_law d bc bs 2957 [(4, .int (nI i)), (3, .ref 158), (2, .ref 135), (1, .ref 100), (0, .ref 0)] [] h n Post := by
  obtain ⟨hR, ⟨th, hQ⟩, hT, hV, ⟨w, s, hO⟩, hs, hn⟩ := hI
  refine sw_aload_n (pc' := 2958) rfl dL_law_2957 rfl ?_
  refine sw_aload_n (pc' := 2959) rfl dL_law_2958 rfl ?_
  refine sw_iload (pc' := 2961) rfl dL_law_2959 rfl ?_
  refine sw_iconst (pc' := 2962) (v := 1) rfl dL_law_2961 (by decide +kernel) ?_
  refine sw_iadd (pc' := 2963) rfl dL_law_2962 ?_
  rw [show (nI i) + 1 = nI (i + 1) from nI_add _ _]
  refine sw_iald (j := i + 1) (pc' := 2964) rfl dL_law_2963 hs rfl (by omega) (by omega) ?_
  refine sw_aload_n (pc' := 2965) rfl dL_law_2964 rfl ?_
  refine sw_iload (pc' := 2967) rfl dL_law_2965 rfl ?_
  refine sw_iconst (pc' := 2968) (v := 2) rfl dL_law_2967 (by decide +kernel) ?_
  refine sw_iadd (pc' := 2969) rfl dL_law_2968 ?_
  rw [show (nI i) + 2 = nI (i + 2) from nI_add _ _]
  refine sw_iald (j := i + 2) (pc' := 2970) rfl dL_law_2969 hs rfl (by omega) (by omega) ?_
  refine sw_aload_n (pc' := 2971) rfl dL_law_2970 rfl ?_
  refine sw_S (M' := ML_ofWalk) (d' := d - 1) (bc' := 60) (bs' := 400) (as := [_, _, _, _]) dL_law_2971 w_1097 ok_L_ofWalk (L_ofWalk hR hT hV hN hO hn (by omega) (Nat.le_refl _) (Nat.le_refl _)) (by omega) (Nat.le_of_ble_eq_true rfl) (by omega) (by omega) (fun E h' n' _ z => lpo_x z) (lpo_k (fun p pn pw ps pk pR pO pv pF => ?_))
  refine sw_istore (pc' := 2976) (lv' := [(5, _), (4, _), (3, _), (2, _), (1, _), (0, _)]) rfl dL_law_2974 (by decide +kernel) rfl ?_
  refine sw_aload_n (pc' := 2977) rfl dL_law_2976 rfl ?_
  refine sw_aload_n (pc' := 2978) rfl dL_law_2977 rfl ?_
  refine sw_iload (pc' := 2980) rfl dL_law_2978 rfl ?_
  refine sw_iconst (pc' := 2981) (v := 1) rfl dL_law_2980 (by decide +kernel) ?_
  refine sw_iadd (pc' := 2982) rfl dL_law_2981 ?_
  rw [show (nI i) + 1 = nI (i + 1) from nI_add _ _]
  refine sw_iald (j := i + 1) (pc' := 2983) rfl dL_law_2982 ((pF 0 (by omega) (by omega) (by omega)).trans hs) rfl (by omega) (by omega) ?_
  refine sw_aload_n (pc' := 2984) rfl dL_law_2983 rfl ?_
  refine sw_iload (pc' := 2986) rfl dL_law_2984 rfl ?_
  refine sw_iconst (pc' := 2987) (v := 2) rfl dL_law_2986 (by decide +kernel) ?_
  refine sw_iadd (pc' := 2988) rfl dL_law_2987 ?_
  rw [show (nI i) + 2 = nI (i + 2) from nI_add _ _]
  refine sw_iald (j := i + 2) (pc' := 2989) rfl dL_law_2988 ((pF 0 (by omega) (by omega) (by omega)).trans hs) rfl (by omega) (by omega) ?_
  have hQ2 := hQ.fr (fun i a b => pF i (by omega) (by omega) (by omega))
  obtain ⟨ρ, τ, hM, hA⟩ := id hQ2
  refine sw_V (M' := MX5_ofWalk) (d' := d - 1) (bc' := 1) (bs' := 12) (ci := 6) (as := [_, _]) dL_law_2989 w_1455 ok_X5_ofWalk (q_ofWalk hQ2 (hV.iv hN) (by omega) (by omega) (Nat.le_refl _) (Nat.le_refl _)) hM.ob rfl (by omega) (Nat.le_of_ble_eq_true rfl) (by omega) (by omega) (fun E h' n' _ z => pmc_x z) (pmc_k ox_ofWalk (fun u un ub uk uv uR uF => ?_))
  refine sw_istore (pc' := 2994) (lv' := [(6, _), (5, _), (4, _), (3, _), (2, _), (1, _), (0, _)]) rfl dL_law_2992 (by decide +kernel) rfl ?_
  refine sw_aload_n (pc' := 2995) rfl dL_law_2994 rfl ?_
  obtain ⟨uρ, uτ, uM, uA⟩ := id uR
  refine sw_V (M' := MX5_thrown) (d' := d - 1) (bc' := 0) (bs' := 0) (ci := 6) (as := []) dL_law_2995 w_1157 ok_X5_thrown (q_thrown uM) uM.ob rfl (by omega) (Nat.le_of_ble_eq_true rfl) (Nat.zero_le _) (Nat.zero_le _) (fun E h' n' _ z => det_x z) (det_k ?_)
  refine sw_iload (pc' := 3000) rfl dL_law_2998 rfl ?_
  refine sw_icmp_eq (pc' := 3003) (tgt := 3005) rfl dL_law_3000 (by decide +kernel) (fun c3000 => ?_) (fun c3000 => ?_)
  · refine sw_iload (pc' := 3007) rfl dL_law_3005 rfl ?_
    refine sw_if_ne (pc' := 3010) (tgt := 3023) rfl dL_law_3007 (by decide +kernel) (fun c3007 => ?_) (fun c3007 => ?_)
    · refine sw_goto (tgt := 3123) dL_law_3023 (by decide +kernel) ?_
      have J : LI L xs u un (opOfWalk σ (xs (i + 1)) (xs (i + 2))).2 (N + 12) := ⟨pR.frT (fun i hi => uF i (by omega) (by omega)), ⟨_, uR⟩, hT.fr (fun i hi => (uF i (by omega) (by omega)).trans (pF i (by omega) (by omega) (by omega))), iv_ofWalk hV, ⟨_, _, (uF 158 (by omega) (by omega)).trans pO⟩, (uF 0 (by omega) (by omega)).trans ((pF 0 (by omega) (by omega) (by omega)).trans hs), by omega⟩
      exact SW.pick [2, 3, 4, 5, 6] rfl ((K u un _ (by omega) J).bud (by omega) (by omega))
    · refine sw_aload_n (pc' := 3011) rfl dL_law_3010 rfl ?_
      refine sw_getN (ci := 5) (k := 0) (pc' := 3014) rfl dL_law_3011 (by decide +kernel) v_347 ((uF 158 (by omega) (by omega)).trans pO) (by show 100 ≤ _; omega) rfl ?_
      refine sw_iload (pc' := 3016) rfl dL_law_3014 rfl ?_
      refine sw_i2l (pc' := 3017) rfl dL_law_3016 ?_
      refine sw_lcmp (pc' := 3018) rfl dL_law_3017 ?_
      refine sw_if_eq (pc' := 3021) (tgt := 3023) rfl dL_law_3018 (by decide +kernel) (fun c3018 => ?_) (fun c3018 => ?_)
      · refine sw_goto (tgt := 3123) dL_law_3023 (by decide +kernel) ?_
        have J : LI L xs u un (opOfWalk σ (xs (i + 1)) (xs (i + 2))).2 (N + 12) := ⟨pR.frT (fun i hi => uF i (by omega) (by omega)), ⟨_, uR⟩, hT.fr (fun i hi => (uF i (by omega) (by omega)).trans (pF i (by omega) (by omega) (by omega))), iv_ofWalk hV, ⟨_, _, (uF 158 (by omega) (by omega)).trans pO⟩, (uF 0 (by omega) (by omega)).trans ((pF 0 (by omega) (by omega) (by omega)).trans hs), by omega⟩
        exact SW.pick [2, 3, 4, 5, 6] rfl ((K u un _ (by omega) J).bud (by omega) (by omega))
      · obtain ⟨v9, e9⟩ := ox_0 ox_ofWalk c3007
        exact absurd (by rw [pv v9 e9, uv v9 e9]; exact lg_self _) c3018
  · exact absurd rfl c3000
theorem lc_40 {L : Nat} {xs : Nat → Int32} {h : AH} {n i N d bc bs : Nat} {σ : CS} {Post : ARes → AH → Nat → Prop} (hI : LI L xs h n σ N) (hN : N < 2 ^ 31) (hL : L ≤ 3072) (hi : i + 6 ≤ L) (hd : 20 ≤ d) (h1 : 380 ≤ bc) (h2 : 4500 ≤ bs) (K : ∀ (h' : AH) (n' : Nat) (σ' : CS), n ≤ n' → LI L xs h' n' σ' (N + 12) → SW SR0 ML_law d (bc - 380) (bs - 4500) 3123 [(4, .int (nI i)), (3, .ref 158), (2, .ref 135), (1, .ref 100), (0, .ref 0)] [] h' n' Post) : SW SR0 ML_law d bc bs 3026 [(4, .int (nI i)), (3, .ref 158), (2, .ref 135), (1, .ref 100), (0, .ref 0)] [] h n Post := by
  obtain ⟨hR, ⟨th, hQ⟩, hT, hV, ⟨w, s, hO⟩, hs, hn⟩ := hI
  refine sw_aload_n (pc' := 3027) rfl dL_law_3026 rfl ?_
  refine sw_aload_n (pc' := 3028) rfl dL_law_3027 rfl ?_
  refine sw_iload (pc' := 3030) rfl dL_law_3028 rfl ?_
  refine sw_iconst (pc' := 3031) (v := 1) rfl dL_law_3030 (by decide +kernel) ?_
  refine sw_iadd (pc' := 3032) rfl dL_law_3031 ?_
  rw [show (nI i) + 1 = nI (i + 1) from nI_add _ _]
  refine sw_iald (j := i + 1) (pc' := 3033) rfl dL_law_3032 hs rfl (by omega) (by omega) ?_
  refine sw_aload_n (pc' := 3034) rfl dL_law_3033 rfl ?_
  refine sw_S (M' := ML_house) (d' := d - 1) (bc' := 60) (bs' := 400) (as := [_, _, _]) dL_law_3034 w_1101 ok_L_house (L_house hR hT hV hN hO hn (by omega) (Nat.le_refl _) (Nat.le_refl _)) (by omega) (Nat.le_of_ble_eq_true rfl) (by omega) (by omega) (fun E h' n' _ z => lpo_x z) (lpo_k (fun p pn pw ps pk pR pO pv pF => ?_))
  refine sw_istore (pc' := 3039) (lv' := [(5, _), (4, _), (3, _), (2, _), (1, _), (0, _)]) rfl dL_law_3037 (by decide +kernel) rfl ?_
  refine sw_aload_n (pc' := 3040) rfl dL_law_3039 rfl ?_
  refine sw_aload_n (pc' := 3041) rfl dL_law_3040 rfl ?_
  refine sw_iload (pc' := 3043) rfl dL_law_3041 rfl ?_
  refine sw_iconst (pc' := 3044) (v := 1) rfl dL_law_3043 (by decide +kernel) ?_
  refine sw_iadd (pc' := 3045) rfl dL_law_3044 ?_
  rw [show (nI i) + 1 = nI (i + 1) from nI_add _ _]
  refine sw_iald (j := i + 1) (pc' := 3046) rfl dL_law_3045 ((pF 0 (by omega) (by omega) (by omega)).trans hs) rfl (by omega) (by omega) ?_
  have hQ2 := hQ.fr (fun i a b => pF i (by omega) (by omega) (by omega))
  obtain ⟨ρ, τ, hM, hA⟩ := id hQ2
  refine sw_V (M' := MX5_house) (d' := d - 1) (bc' := 1) (bs' := 12) (ci := 6) (as := [_]) dL_law_3046 w_1463 ok_X5_house (q_house hQ2 (hV.iv hN) (by omega) (by omega) (Nat.le_refl _) (Nat.le_refl _)) hM.ob rfl (by omega) (Nat.le_of_ble_eq_true rfl) (by omega) (by omega) (fun E h' n' _ z => pmc_x z) (pmc_k ox_house (fun u un ub uk uv uR uF => ?_))
  refine sw_istore (pc' := 3051) (lv' := [(6, _), (5, _), (4, _), (3, _), (2, _), (1, _), (0, _)]) rfl dL_law_3049 (by decide +kernel) rfl ?_
  refine sw_aload_n (pc' := 3052) rfl dL_law_3051 rfl ?_
  obtain ⟨uρ, uτ, uM, uA⟩ := id uR
  refine sw_V (M' := MX5_thrown) (d' := d - 1) (bc' := 0) (bs' := 0) (ci := 6) (as := []) dL_law_3052 w_1157 ok_X5_thrown (q_thrown uM) uM.ob rfl (by omega) (Nat.le_of_ble_eq_true rfl) (Nat.zero_le _) (Nat.zero_le _) (fun E h' n' _ z => det_x z) (det_k ?_)
  refine sw_iload (pc' := 3057) rfl dL_law_3055 rfl ?_
  refine sw_icmp_eq (pc' := 3060) (tgt := 3062) rfl dL_law_3057 (by decide +kernel) (fun c3057 => ?_) (fun c3057 => ?_)
  · refine sw_iload (pc' := 3064) rfl dL_law_3062 rfl ?_
    refine sw_if_ne (pc' := 3067) (tgt := 3080) rfl dL_law_3064 (by decide +kernel) (fun c3064 => ?_) (fun c3064 => ?_)
    · refine sw_goto (tgt := 3123) dL_law_3080 (by decide +kernel) ?_
      have J : LI L xs u un (opHouse σ (xs (i + 1))).2 (N + 12) := ⟨pR.frT (fun i hi => uF i (by omega) (by omega)), ⟨_, uR⟩, hT.fr (fun i hi => (uF i (by omega) (by omega)).trans (pF i (by omega) (by omega) (by omega))), iv_house hV, ⟨_, _, (uF 158 (by omega) (by omega)).trans pO⟩, (uF 0 (by omega) (by omega)).trans ((pF 0 (by omega) (by omega) (by omega)).trans hs), by omega⟩
      exact SW.pick [2, 3, 4, 5, 6] rfl ((K u un _ (by omega) J).bud (by omega) (by omega))
    · refine sw_aload_n (pc' := 3068) rfl dL_law_3067 rfl ?_
      refine sw_getN (ci := 5) (k := 0) (pc' := 3071) rfl dL_law_3068 (by decide +kernel) v_347 ((uF 158 (by omega) (by omega)).trans pO) (by show 100 ≤ _; omega) rfl ?_
      refine sw_iload (pc' := 3073) rfl dL_law_3071 rfl ?_
      refine sw_i2l (pc' := 3074) rfl dL_law_3073 ?_
      refine sw_lcmp (pc' := 3075) rfl dL_law_3074 ?_
      refine sw_if_eq (pc' := 3078) (tgt := 3080) rfl dL_law_3075 (by decide +kernel) (fun c3075 => ?_) (fun c3075 => ?_)
      · refine sw_goto (tgt := 3123) dL_law_3080 (by decide +kernel) ?_
        have J : LI L xs u un (opHouse σ (xs (i + 1))).2 (N + 12) := ⟨pR.frT (fun i hi => uF i (by omega) (by omega)), ⟨_, uR⟩, hT.fr (fun i hi => (uF i (by omega) (by omega)).trans (pF i (by omega) (by omega) (by omega))), iv_house hV, ⟨_, _, (uF 158 (by omega) (by omega)).trans pO⟩, (uF 0 (by omega) (by omega)).trans ((pF 0 (by omega) (by omega) (by omega)).trans hs), by omega⟩
        exact SW.pick [2, 3, 4, 5, 6] rfl ((K u un _ (by omega) J).bud (by omega) (by omega))
      · obtain ⟨v9, e9⟩ := ox_0 ox_house c3064
        exact absurd (by rw [pv v9 e9, uv v9 e9]; exact lg_self _) c3075
  · exact absurd rfl c3057
theorem lc_41 {L : Nat} {xs : Nat → Int32} {h : AH} {n i N d bc bs : Nat} {σ : CS} {Post : ARes → AH → Nat → Prop} (hI : LI L xs h n σ N) (hN : N < 2 ^ 31) (hL : L ≤ 3072) (hi : i + 6 ≤ L) (hd : 20 ≤ d) (h1 : 380 ≤ bc) (h2 : 4500 ≤ bs) (K : ∀ (h' : AH) (n' : Nat) (σ' : CS), n ≤ n' → LI L xs h' n' σ' (N + 12) → SW SR0 ML_law d (bc - 380) (bs - 4500) 3123 [(4, .int (nI i)), (3, .ref 158), (2, .ref 135), (1, .ref 100), (0, .ref 0)] [] h' n' Post) : SW SR0 ML_law d bc bs 3083 [(4, .int (nI i)), (3, .ref 158), (2, .ref 135), (1, .ref 100), (0, .ref 0)] [] h n Post := by
  obtain ⟨hR, ⟨th, hQ⟩, hT, hV, ⟨w, s, hO⟩, hs, hn⟩ := hI
  refine sw_aload_n (pc' := 3084) rfl dL_law_3083 rfl ?_
  refine sw_V (M' := MX3_knock) (d' := d - 1) (bc' := 0) (bs' := 0) (ci := 4) (as := []) dL_law_3084 w_172 ok_X3_knock (m_knock hR) hR.1 rfl (by omega) (Nat.le_of_ble_eq_true rfl) (Nat.zero_le _) (Nat.zero_le _) (fun E h' n' _ z => cp_x z) (cp_k (fun p pR pF => ?_))
  refine sw_aload_n (pc' := 3088) rfl dL_law_3087 rfl ?_
  obtain ⟨ρ, τ, hM, hA⟩ := hQ.fr (fun i a b => pF i (by omega) (by omega))
  refine sw_V (M' := MX5_knock) (d' := d - 1) (bc' := 0) (bs' := 0) (ci := 6) (as := []) dL_law_3088 w_1471 ok_X5_knock (q_knock hM hA) hM.ob rfl (by omega) (Nat.le_of_ble_eq_true rfl) (Nat.zero_le _) (Nat.zero_le _) (fun E h' n' _ z => rp_x z) (rp_k (fun u uρ uτ uM uA uF => ?_))
  refine sw_icmp_eq (pc' := 3094) (tgt := 3123) rfl dL_law_3091 (by decide +kernel) (fun c3091 => ?_) (fun c3091 => ?_)
  · have J : LI L xs u n (knU σ) (N + 12) := ⟨pR.frT (fun i hi => uF i (by omega) (by omega)), ⟨_, _, _, uM, uA⟩, hT.fr (fun i hi => (uF i (by omega) (by omega)).trans (pF i (by omega) (by omega))), hV.kn.mono (by omega), ⟨_, _, (uF 158 (by omega) (by omega)).trans ((pF 158 (by omega) (by omega)).trans hO)⟩, (uF 0 (by omega) (by omega)).trans ((pF 0 (by omega) (by omega)).trans hs), by omega⟩
    exact SW.pick [0, 1, 2, 3, 4] rfl ((K u n _ (by omega) J).bud (by omega) (by omega))
  · exact absurd rfl c3091
theorem lc_42 {L : Nat} {xs : Nat → Int32} {h : AH} {n i N d bc bs : Nat} {σ : CS} {Post : ARes → AH → Nat → Prop} (hI : LI L xs h n σ N) (hN : N < 2 ^ 31) (hL : L ≤ 3072) (hi : i + 6 ≤ L) (hd : 20 ≤ d) (h1 : 380 ≤ bc) (h2 : 4500 ≤ bs) (K : ∀ (h' : AH) (n' : Nat) (σ' : CS), n ≤ n' → LI L xs h' n' σ' (N + 12) → SW SR0 ML_law d (bc - 380) (bs - 4500) 3123 [(4, .int (nI i)), (3, .ref 158), (2, .ref 135), (1, .ref 100), (0, .ref 0)] [] h' n' Post) : SW SR0 ML_law d bc bs 3096 [(4, .int (nI i)), (3, .ref 158), (2, .ref 135), (1, .ref 100), (0, .ref 0)] [] h n Post := by
  obtain ⟨hR, ⟨th, hQ⟩, hT, hV, ⟨w, s, hO⟩, hs, hn⟩ := hI
  refine sw_aload_n (pc' := 3097) rfl dL_law_3096 rfl ?_
  refine sw_V (M' := MX3_isSound) (d' := d - 1) (bc' := 0) (bs' := 0) (ci := 4) (as := []) dL_law_3097 w_176 ok_X3_isSound (m_isSound hR (by omega)) hR.1 rfl (by omega) (Nat.le_of_ble_eq_true rfl) (Nat.zero_le _) (Nat.zero_le _) (fun E h' n' _ z => cp_x z) (cp_k (fun p pR pF => ?_))
  refine sw_aload_n (pc' := 3101) rfl dL_law_3100 rfl ?_
  obtain ⟨ρ, τ, hM, hA⟩ := hQ.fr (fun i a b => pF i (by omega) (by omega))
  refine sw_V (M' := MX5_isSound) (d' := d - 1) (bc' := 0) (bs' := 0) (ci := 6) (as := []) dL_law_3101 w_1475 ok_X5_isSound (q_isSound hM hA) hM.ob rfl (by omega) (Nat.le_of_ble_eq_true rfl) (Nat.zero_le _) (Nat.zero_le _) (fun E h' n' _ z => rp_x z) (rp_k (fun u uρ uτ uM uA uF => ?_))
  refine sw_icmp_eq (pc' := 3107) (tgt := 3123) rfl dL_law_3104 (by decide +kernel) (fun c3104 => ?_) (fun c3104 => ?_)
  · have J : LI L xs u n σ (N + 12) := ⟨pR.frT (fun i hi => uF i (by omega) (by omega)), ⟨_, _, _, uM, uA⟩, hT.fr (fun i hi => (uF i (by omega) (by omega)).trans (pF i (by omega) (by omega))), hV.mono (by omega), ⟨_, _, (uF 158 (by omega) (by omega)).trans ((pF 158 (by omega) (by omega)).trans hO)⟩, (uF 0 (by omega) (by omega)).trans ((pF 0 (by omega) (by omega)).trans hs), by omega⟩
    exact SW.pick [0, 1, 2, 3, 4] rfl ((K u n _ (by omega) J).bud (by omega) (by omega))
  · exact absurd (show bI (snB σ) = 1 from by rw [hV.sn]; rfl) c3104
theorem lc_43 {L : Nat} {xs : Nat → Int32} {h : AH} {n i N d bc bs : Nat} {σ : CS} {Post : ARes → AH → Nat → Prop} (hI : LI L xs h n σ N) (hN : N < 2 ^ 31) (hL : L ≤ 3072) (hi : i + 6 ≤ L) (hd : 20 ≤ d) (h1 : 380 ≤ bc) (h2 : 4500 ≤ bs) (K : ∀ (h' : AH) (n' : Nat) (σ' : CS), n ≤ n' → LI L xs h' n' σ' (N + 12) → SW SR0 ML_law d (bc - 380) (bs - 4500) 3123 [(4, .int (nI i)), (3, .ref 158), (2, .ref 135), (1, .ref 100), (0, .ref 0)] [] h' n' Post) : SW SR0 ML_law d bc bs 3109 [(4, .int (nI i)), (3, .ref 158), (2, .ref 135), (1, .ref 100), (0, .ref 0)] [] h n Post := by
  obtain ⟨hR, ⟨th, hQ⟩, hT, hV, ⟨w, s, hO⟩, hs, hn⟩ := hI
  refine sw_aload_n (pc' := 3110) rfl dL_law_3109 rfl ?_
  refine sw_V (M' := MX3_digest) (d' := d - 1) (bc' := 24) (bs' := 144) (ci := 4) (as := []) dL_law_3110 w_251 ok_X3_digest (m_digest hR (by omega) (Nat.le_refl _) (Nat.le_refl _)) hR.1 rfl (by omega) (Nat.le_of_ble_eq_true rfl) (by omega) (by omega) (fun E h' n' _ z => cp_x z) (cp_k (fun p pR pF => ?_))
  refine sw_aload_n (pc' := 3114) rfl dL_law_3113 rfl ?_
  have hQ2 := hQ.fr (fun i a b => pF i (by omega) (by omega))
  obtain ⟨ρ, τ, hM, hA⟩ := id hQ2
  refine sw_V (M' := MX5_digest) (d' := d - 1) (bc' := 40) (bs' := 400) (ci := 6) (as := []) dL_law_3114 w_1479 ok_X5_digest (q_digest hQ2 (hV.iv hN) hV.sn hn (by omega) (Nat.le_refl _) (Nat.le_refl _)) hM.ob rfl (by omega) (Nat.le_of_ble_eq_true rfl) (by omega) (by omega) (fun E h' n' _ z => absurd z.1 (fun e => by cases e)) (dpc_k (fun u un uk uR uF => ?_))
  refine sw_lcmp (pc' := 3118) rfl dL_law_3117 ?_
  refine sw_if_eq (pc' := 3121) (tgt := 3123) rfl dL_law_3118 (by decide +kernel) (fun c3118 => ?_) (fun c3118 => ?_)
  · have J : LI L xs u un σ (N + 12) := ⟨pR.frT (fun i hi => uF i (by omega) (by omega)), ⟨_, uR⟩, hT.fr (fun i hi => (uF i (by omega) (by omega)).trans (pF i (by omega) (by omega))), hV.mono (by omega), ⟨_, _, (uF 158 (by omega) (by omega)).trans ((pF 158 (by omega) (by omega)).trans hO)⟩, (uF 0 (by omega) (by omega)).trans ((pF 0 (by omega) (by omega)).trans hs), by omega⟩
    exact SW.pick [0, 1, 2, 3, 4] rfl ((K u un _ (by omega) J).bud (by omega) (by omega))
  · exact absurd (lg_self _) c3118
end
section
/-! 58.law -/
/-! the law -/
theorem and63 (x : Int32) : ∃ k, k < 64 ∧ x &&& 63 = nI k := by
  refine ⟨(x &&& 63).toBitVec.toNat, ?_, ?_⟩
  · rw [Int32.toBitVec_and]
    show (x.toBitVec &&& 63#32).toNat < 64
    rw [BitVec.toNat_and]
    exact Nat.lt_of_le_of_lt Nat.and_le_right (by decide +kernel)
  · apply Int32.toBitVec_inj.mp
    show _ = BitVec.ofNat 32 _
    rw [BitVec.ofNat_toNat, BitVec.setWidth_eq]
theorem sub6 {L i : Nat} (hL : L ≤ 3072) (hi : i ≤ 4000) : nI L - 6 < nI i ↔ L < i + 6 := by
  rw [Int32.lt_iff_toInt_lt, Int32.toInt_sub, show (nI L).toInt = (L : Int) from nI_toInt (by omega), show (nI i).toInt = (i : Int) from nI_toInt (by omega), show (6 : Int32).toInt = 6 from rfl, Int.bmod_eq_of_le (by omega) (by omega)]
  omega
theorem LI.up {L : Nat} {xs : Nat → Int32} {h : AH} {n N : Nat} {σ : CS} (hI : LI L xs h n σ N) : LI L xs h n σ (N + 12) := ⟨hI.1, hI.2.1, hI.2.2.1, hI.2.2.2.1.mono (by omega), hI.2.2.2.2⟩
theorem ll_loop {L d : Nat} {xs : Nat → Int32} {Post : ARes → AH → Nat → Prop} (hL : L ≤ 3072) (hd : 20 ≤ d) (hP : ∀ h n, Post (.inl (some (.int 1))) h n) (m : Nat) : ∀ (i n N bc bs : Nat) (h : AH) (σ : CS), LI L xs h n σ N → N + 12 * m < 2 ^ 31 → L < i + 6 * m + 6 → i ≤ L + 6 → 380 * m ≤ bc → 4500 * m ≤ bs → SW SR0 ML_law d bc bs 27 [(4, .int (nI i)), (3, .ref 158), (2, .ref 135), (1, .ref 100), (0, .ref 0)] [] h n Post := by
  induction m with
  | zero =>
    intro i n N bc bs h σ hI hN hm hi h1 h2
    have hs := hI.2.2.2.2.2.1
    refine sw_iload (pc' := 29) rfl dL_law_27 rfl ?_
    refine sw_aload_n (pc' := 30) rfl dL_law_29 rfl ?_
    refine sw_alen (pc' := 31) rfl dL_law_30 hs (by decide +kernel) (Or.inr ⟨by decide +kernel, _, rfl⟩) ?_
    refine sw_bipush (pc' := 33) (v := 6) rfl dL_law_31 (by decide +kernel) ?_
    refine sw_isub (pc' := 34) rfl dL_law_33 ?_
    refine sw_icmp_gt (pc' := 37) (tgt := 3129) rfl dL_law_34 (by decide +kernel) (fun c34 => ?_) (fun c34 => ?_)
    · refine sw_iconst (pc' := 3130) (v := 1) rfl dL_law_3129 (by decide +kernel) ?_
      refine sw_ret (v := some _) ⟨dL_law_3130, _, rfl, rfl⟩ ?_
      exact hP _ _
    · exact absurd ((sub6 hL (by omega)).mpr (by omega)) c34
  | succ m ih =>
    intro i n N bc bs h σ hI hN hm hi h1 h2
    have hs := hI.2.2.2.2.2.1
    by_cases q : i + 6 ≤ L
    · have K : ∀ (h' : AH) (n' : Nat) (σ' : CS), n ≤ n' → LI L xs h' n' σ' (N + 12) → SW SR0 ML_law d (bc - 380) (bs - 4500) 3123 [(4, .int (nI i)), (3, .ref 158), (2, .ref 135), (1, .ref 100), (0, .ref 0)] [] h' n' Post := by
        intro h' n' σ' hn J
        have hs := J.2.2.2.2.2.1
        refine sw_iinc (pc' := 3126) (lv' := [(4, _), (3, _), (2, _), (1, _), (0, _)]) (v := nI (i + 6)) rfl dL_law_3123 rfl (nI_add i 6) (by decide +kernel) rfl ?_
        refine sw_goto (tgt := 27) dL_law_3126 (by decide +kernel) ?_
        exact ih (i + 6) n' (N + 12) _ _ h' σ' J (by omega) (by omega) (by omega) (by omega) (by omega)
      refine sw_iload (pc' := 29) rfl dL_law_27 rfl ?_
      refine sw_aload_n (pc' := 30) rfl dL_law_29 rfl ?_
      refine sw_alen (pc' := 31) rfl dL_law_30 hs (by decide +kernel) (Or.inr ⟨by decide +kernel, _, rfl⟩) ?_
      refine sw_bipush (pc' := 33) (v := 6) rfl dL_law_31 (by decide +kernel) ?_
      refine sw_isub (pc' := 34) rfl dL_law_33 ?_
      refine sw_icmp_gt (pc' := 37) (tgt := 3129) rfl dL_law_34 (by decide +kernel) (fun c34 => ?_) (fun c34 => ?_)
      · exact absurd ((sub6 hL (by omega)).mp c34) (by omega)
      · refine sw_aload_n (pc' := 38) rfl dL_law_37 rfl ?_
        refine sw_iload (pc' := 40) rfl dL_law_38 rfl ?_
        refine sw_iald (j := i) (pc' := 41) rfl dL_law_40 hs rfl (by omega) (by omega) ?_
        refine sw_bipush (pc' := 43) (v := 63) rfl dL_law_41 (by decide +kernel) ?_
        refine sw_iand (pc' := 44) rfl dL_law_43 ?_
        obtain ⟨k, hk, ek⟩ := and63 (xs i)
        rw [ek]
        by_cases k9 : k < 44
        · rcases (show k = 0 ∨ k = 1 ∨ k = 2 ∨ k = 3 ∨ k = 4 ∨ k = 5 ∨ k = 6 ∨ k = 7 ∨ k = 8 ∨ k = 9 ∨ k = 10 ∨ k = 11 ∨ k = 12 ∨ k = 13 ∨ k = 14 ∨ k = 15 ∨ k = 16 ∨ k = 17 ∨ k = 18 ∨ k = 19 ∨ k = 20 ∨ k = 21 ∨ k = 22 ∨ k = 23 ∨ k = 24 ∨ k = 25 ∨ k = 26 ∨ k = 27 ∨ k = 28 ∨ k = 29 ∨ k = 30 ∨ k = 31 ∨ k = 32 ∨ k = 33 ∨ k = 34 ∨ k = 35 ∨ k = 36 ∨ k = 37 ∨ k = 38 ∨ k = 39 ∨ k = 40 ∨ k = 41 ∨ k = 42 ∨ k = 43 by omega) with rfl | rfl | rfl | rfl | rfl | rfl | rfl | rfl | rfl | rfl | rfl | rfl | rfl | rfl | rfl | rfl | rfl | rfl | rfl | rfl | rfl | rfl | rfl | rfl | rfl | rfl | rfl | rfl | rfl | rfl | rfl | rfl | rfl | rfl | rfl | rfl | rfl | rfl | rfl | rfl | rfl | rfl | rfl | rfl
          · refine sw_tableIn (tgt := 236) dL_law_44 (by decide +kernel) (by decide +kernel) (by rfl) (by decide +kernel) ?_
            exact lc_0 hI (by omega) hL q hd (by omega) (by omega) K
          · refine sw_tableIn (tgt := 305) dL_law_44 (by decide +kernel) (by decide +kernel) (by rfl) (by decide +kernel) ?_
            exact lc_1 hI (by omega) hL q hd (by omega) (by omega) K
          · refine sw_tableIn (tgt := 410) dL_law_44 (by decide +kernel) (by decide +kernel) (by rfl) (by decide +kernel) ?_
            exact lc_2 hI (by omega) hL q hd (by omega) (by omega) K
          · refine sw_tableIn (tgt := 479) dL_law_44 (by decide +kernel) (by decide +kernel) (by rfl) (by decide +kernel) ?_
            exact lc_3 hI (by omega) hL q hd (by omega) (by omega) K
          · refine sw_tableIn (tgt := 536) dL_law_44 (by decide +kernel) (by decide +kernel) (by rfl) (by decide +kernel) ?_
            exact lc_4 hI (by omega) hL q hd (by omega) (by omega) K
          · refine sw_tableIn (tgt := 605) dL_law_44 (by decide +kernel) (by decide +kernel) (by rfl) (by decide +kernel) ?_
            exact lc_5 hI (by omega) hL q hd (by omega) (by omega) K
          · refine sw_tableIn (tgt := 674) dL_law_44 (by decide +kernel) (by decide +kernel) (by rfl) (by decide +kernel) ?_
            exact lc_6 hI (by omega) hL q hd (by omega) (by omega) K
          · refine sw_tableIn (tgt := 755) dL_law_44 (by decide +kernel) (by decide +kernel) (by rfl) (by decide +kernel) ?_
            exact lc_7 hI (by omega) hL q hd (by omega) (by omega) K
          · refine sw_tableIn (tgt := 836) dL_law_44 (by decide +kernel) (by decide +kernel) (by rfl) (by decide +kernel) ?_
            exact lc_8 hI (by omega) hL q hd (by omega) (by omega) K
          · refine sw_tableIn (tgt := 905) dL_law_44 (by decide +kernel) (by decide +kernel) (by rfl) (by decide +kernel) ?_
            exact lc_9 hI (by omega) hL q hd (by omega) (by omega) K
          · refine sw_tableIn (tgt := 962) dL_law_44 (by decide +kernel) (by decide +kernel) (by rfl) (by decide +kernel) ?_
            exact lc_10 hI (by omega) hL q hd (by omega) (by omega) K
          · refine sw_tableIn (tgt := 1031) dL_law_44 (by decide +kernel) (by decide +kernel) (by rfl) (by decide +kernel) ?_
            exact lc_11 hI (by omega) hL q hd (by omega) (by omega) K
          · refine sw_tableIn (tgt := 1112) dL_law_44 (by decide +kernel) (by decide +kernel) (by rfl) (by decide +kernel) ?_
            exact lc_12 hI (by omega) hL q hd (by omega) (by omega) K
          · refine sw_tableIn (tgt := 1181) dL_law_44 (by decide +kernel) (by decide +kernel) (by rfl) (by decide +kernel) ?_
            exact lc_13 hI (by omega) hL q hd (by omega) (by omega) K
          · refine sw_tableIn (tgt := 1262) dL_law_44 (by decide +kernel) (by decide +kernel) (by rfl) (by decide +kernel) ?_
            exact lc_14 hI (by omega) hL q hd (by omega) (by omega) K
          · refine sw_tableIn (tgt := 1343) dL_law_44 (by decide +kernel) (by decide +kernel) (by rfl) (by decide +kernel) ?_
            exact lc_15 hI (by omega) hL q hd (by omega) (by omega) K
          · refine sw_tableIn (tgt := 1424) dL_law_44 (by decide +kernel) (by decide +kernel) (by rfl) (by decide +kernel) ?_
            exact lc_16 hI (by omega) hL q hd (by omega) (by omega) K
          · refine sw_tableIn (tgt := 1481) dL_law_44 (by decide +kernel) (by decide +kernel) (by rfl) (by decide +kernel) ?_
            exact lc_17 hI (by omega) hL q hd (by omega) (by omega) K
          · refine sw_tableIn (tgt := 1538) dL_law_44 (by decide +kernel) (by decide +kernel) (by rfl) (by decide +kernel) ?_
            exact lc_18 hI (by omega) hL q hd (by omega) (by omega) K
          · refine sw_tableIn (tgt := 1595) dL_law_44 (by decide +kernel) (by decide +kernel) (by rfl) (by decide +kernel) ?_
            exact lc_19 hI (by omega) hL q hd (by omega) (by omega) K
          · refine sw_tableIn (tgt := 1653) dL_law_44 (by decide +kernel) (by decide +kernel) (by rfl) (by decide +kernel) ?_
            exact lc_20 hI (by omega) hL q hd (by omega) (by omega) K
          · refine sw_tableIn (tgt := 1722) dL_law_44 (by decide +kernel) (by decide +kernel) (by rfl) (by decide +kernel) ?_
            exact lc_21 hI (by omega) hL q hd (by omega) (by omega) K
          · refine sw_tableIn (tgt := 1791) dL_law_44 (by decide +kernel) (by decide +kernel) (by rfl) (by decide +kernel) ?_
            exact lc_22 hI (by omega) hL q hd (by omega) (by omega) K
          · refine sw_tableIn (tgt := 1848) dL_law_44 (by decide +kernel) (by decide +kernel) (by rfl) (by decide +kernel) ?_
            exact lc_23 hI (by omega) hL q hd (by omega) (by omega) K
          · refine sw_tableIn (tgt := 1917) dL_law_44 (by decide +kernel) (by decide +kernel) (by rfl) (by decide +kernel) ?_
            exact lc_24 hI (by omega) hL q hd (by omega) (by omega) K
          · refine sw_tableIn (tgt := 1986) dL_law_44 (by decide +kernel) (by decide +kernel) (by rfl) (by decide +kernel) ?_
            exact lc_25 hI (by omega) hL q hd (by omega) (by omega) K
          · refine sw_tableIn (tgt := 2056) dL_law_44 (by decide +kernel) (by decide +kernel) (by rfl) (by decide +kernel) ?_
            exact lc_26 hI (by omega) hL q hd (by omega) (by omega) K
          · refine sw_tableIn (tgt := 2114) dL_law_44 (by decide +kernel) (by decide +kernel) (by rfl) (by decide +kernel) ?_
            exact lc_27 hI (by omega) hL q hd (by omega) (by omega) K
          · refine sw_tableIn (tgt := 2172) dL_law_44 (by decide +kernel) (by decide +kernel) (by rfl) (by decide +kernel) ?_
            exact lc_28 hI (by omega) hL q hd (by omega) (by omega) K
          · refine sw_tableIn (tgt := 2229) dL_law_44 (by decide +kernel) (by decide +kernel) (by rfl) (by decide +kernel) ?_
            exact lc_29 hI (by omega) hL q hd (by omega) (by omega) K
          · refine sw_tableIn (tgt := 2293) dL_law_44 (by decide +kernel) (by decide +kernel) (by rfl) (by decide +kernel) ?_
            exact lc_30 hI (by omega) hL q hd (by omega) (by omega) K
          · refine sw_tableIn (tgt := 2362) dL_law_44 (by decide +kernel) (by decide +kernel) (by rfl) (by decide +kernel) ?_
            exact lc_31 hI (by omega) hL q hd (by omega) (by omega) K
          · refine sw_tableIn (tgt := 2431) dL_law_44 (by decide +kernel) (by decide +kernel) (by rfl) (by decide +kernel) ?_
            exact lc_32 hI (by omega) hL q hd (by omega) (by omega) K
          · refine sw_tableIn (tgt := 2528) dL_law_44 (by decide +kernel) (by decide +kernel) (by rfl) (by decide +kernel) ?_
            exact lc_33 hI (by omega) hL q hd (by omega) (by omega) K
          · refine sw_tableIn (tgt := 2597) dL_law_44 (by decide +kernel) (by decide +kernel) (by rfl) (by decide +kernel) ?_
            exact lc_34 hI (by omega) hL q hd (by omega) (by omega) K
          · refine sw_tableIn (tgt := 2682) dL_law_44 (by decide +kernel) (by decide +kernel) (by rfl) (by decide +kernel) ?_
            exact lc_35 hI (by omega) hL q hd (by omega) (by omega) K
          · refine sw_tableIn (tgt := 2739) dL_law_44 (by decide +kernel) (by decide +kernel) (by rfl) (by decide +kernel) ?_
            exact lc_36 hI (by omega) hL q hd (by omega) (by omega) K
          · refine sw_tableIn (tgt := 2815) dL_law_44 (by decide +kernel) (by decide +kernel) (by rfl) (by decide +kernel) ?_
            exact lc_37 hI (by omega) hL q hd (by omega) (by omega) K
          · refine sw_tableIn (tgt := 2900) dL_law_44 (by decide +kernel) (by decide +kernel) (by rfl) (by decide +kernel) ?_
            exact lc_38 hI (by omega) hL q hd (by omega) (by omega) K
          · refine sw_tableIn (tgt := 2957) dL_law_44 (by decide +kernel) (by decide +kernel) (by rfl) (by decide +kernel) ?_
            exact lc_39 hI (by omega) hL q hd (by omega) (by omega) K
          · refine sw_tableIn (tgt := 3026) dL_law_44 (by decide +kernel) (by decide +kernel) (by rfl) (by decide +kernel) ?_
            exact lc_40 hI (by omega) hL q hd (by omega) (by omega) K
          · refine sw_tableIn (tgt := 3083) dL_law_44 (by decide +kernel) (by decide +kernel) (by rfl) (by decide +kernel) ?_
            exact lc_41 hI (by omega) hL q hd (by omega) (by omega) K
          · refine sw_tableIn (tgt := 3096) dL_law_44 (by decide +kernel) (by decide +kernel) (by rfl) (by decide +kernel) ?_
            exact lc_42 hI (by omega) hL q hd (by omega) (by omega) K
          · refine sw_tableIn (tgt := 3109) dL_law_44 (by decide +kernel) (by decide +kernel) (by rfl) (by decide +kernel) ?_
            exact lc_43 hI (by omega) hL q hd (by omega) (by omega) K
        · refine sw_tableOut (tgt := 3123) dL_law_44 (Or.inr (by rw [nI_toInt (by omega)]; omega)) (by decide +kernel) ?_
          exact (K h n σ (Nat.le_refl _) hI.up).bud (by omega) (by omega)
    · refine sw_iload (pc' := 29) rfl dL_law_27 rfl ?_
      refine sw_aload_n (pc' := 30) rfl dL_law_29 rfl ?_
      refine sw_alen (pc' := 31) rfl dL_law_30 hs (by decide +kernel) (Or.inr ⟨by decide +kernel, _, rfl⟩) ?_
      refine sw_bipush (pc' := 33) (v := 6) rfl dL_law_31 (by decide +kernel) ?_
      refine sw_isub (pc' := 34) rfl dL_law_33 ?_
      refine sw_icmp_gt (pc' := 37) (tgt := 3129) rfl dL_law_34 (by decide +kernel) (fun c34 => ?_) (fun c34 => ?_)
      · refine sw_iconst (pc' := 3130) (v := 1) rfl dL_law_3129 (by decide +kernel) ?_
        refine sw_ret (v := some _) ⟨dL_law_3130, _, rfl, rfl⟩ ?_
        exact hP _ _
      · exact absurd ((sub6 hL (by omega)).mpr (by omega)) c34
theorem icl_k {A : Nat → AH → Option Value → Prop} {h : AH} {n0 : Nat} (k : ∀ h', RC h' s0 → (∀ i, i < 100 → h' i = h i) → A 135 h' none) : ∀ (v : Option Value) (h' : AH) (n' : Nat), n0 ≤ n' → IC h (.inl v) h' n' → A n' h' v := by
  rintro v h' n' - ⟨e, rfl, g1, g2⟩
  cases e
  exact k h' g1 g2
theorem imo_k {A : Nat → AH → Option Value → Prop} {h : AH} {n0 : Nat} (k : ∀ h', RMo h' s0 0 → (∀ i, i < 135 → h' i = h i) → A 158 h' none) : ∀ (v : Option Value) (h' : AH) (n' : Nat), n0 ≤ n' → IM h (.inl v) h' n' → A n' h' v := by
  rintro v h' n' - ⟨e, rfl, g1, g2⟩
  cases e
  exact k h' g1 g2
theorem law_all {h : AH} {L d bc bs : Nat} {xs : Nat → Int32} {Post : ARes → AH → Nat → Prop} (hL : L ≤ 3072) (hs : h 0 = .inl (0, L, .inl xs)) (hT : TXT h) (hK : ∀ k, 1 ≤ k → k ≤ 5 → KdF h k) (hd : 20 ≤ d) (h1 : 195000 ≤ bc) (h2 : 2310000 ≤ bs) (hP : ∀ h n, Post (.inl (some (.int 1))) h n) : SW SR0 ML_law d bc bs 0 [(0, .ref 0)] [] h 100 Post := by
  refine sw_new (ci := 4) (pc' := 3) rfl dL_law_0 (by decide +kernel) w_63 w_64 w_39 (by omega) (Nat.le_trans (Nat.le_of_ble_eq_true rfl) (show 7 ≤ _ by omega)) ?_
  refine sw_nm (fun g1 eg1 => ?_)
  have zg1 := (congrFun eg1 100).trans (up_s (h := h) (i := 100))
  refine sw_dup (pc' := 4) rfl dL_law_3 rfl ?_
  have f4 : FN 4 = 7 := rfl
  have f5 : FN 5 = 2 := rfl
  have f6 : FN 6 = 14 := rfl
  refine sw_I (M' := MX3_init) (d' := d - 1) (bc' := 40) (bs' := 400) (as := []) dL_law_4 w_65 ok_X3_init (m_initClass zg1 (fun k a b => ⟨(hK k a b).1, ((congrFun eg1 k).trans ((up_n (by omega)).trans (rfl))).trans (hK k a b).2⟩) (by omega) (Nat.le_refl _) (Nat.le_refl _)) (by omega) (Nat.le_of_ble_eq_true rfl) (by omega) (by omega) (fun E h' n' _ z => absurd z.1 (fun e => by cases e)) (icl_k (fun p pR pF => ?_))
  have pG : ∀ i, i < 100 → p i = h i := fun i hi => (pF i hi).trans ((congrFun eg1 i).trans ((up_n (by omega)).trans (rfl)))
  refine sw_astore_n (pc' := 8) (lv' := [(1, _), (0, _)]) rfl dL_law_7 (by decide +kernel) rfl ?_
  refine sw_new (ci := 6) (pc' := 11) rfl dL_law_8 (by decide +kernel) w_1105 w_1106 w_44 (by omega) (Nat.le_trans (Nat.le_of_ble_eq_true rfl) (show 14 ≤ _ by omega)) ?_
  refine sw_nm (fun g2 eg2 => ?_)
  have zg2 := (congrFun eg2 135).trans (up_s (h := p) (i := 135))
  refine sw_dup (pc' := 12) rfl dL_law_11 rfl ?_
  refine sw_I (M' := MX5_init) (d' := d - 1) (bc' := 30) (bs' := 300) (as := []) dL_law_12 w_1107 ok_X5_init (q_initModel zg2 (Nat.le_refl _) (Nat.le_refl _)) (by omega) (Nat.le_of_ble_eq_true rfl) (by omega) (by omega) (fun E h' n' _ z => absurd z.1 (fun e => by cases e)) (imo_k (fun q qR qF => ?_))
  have qG : ∀ i, i < 135 → q i = p i := fun i hi => (qF i hi).trans ((congrFun eg2 i).trans ((up_n (by omega)).trans (rfl)))
  refine sw_astore_n (pc' := 16) (lv' := [(2, _), (1, _), (0, _)]) rfl dL_law_15 (by decide +kernel) rfl ?_
  refine sw_new (ci := 5) (pc' := 19) rfl dL_law_16 (by decide +kernel) w_379 w_380 w_45 (by omega) (Nat.le_trans (Nat.le_of_ble_eq_true rfl) (show 2 ≤ _ by omega)) ?_
  refine sw_nm (fun g3 eg3 => ?_)
  have zg3 := (congrFun eg3 158).trans (up_s (h := q) (i := 158))
  refine sw_dup (pc' := 20) rfl dL_law_19 rfl ?_
  refine sw_callIN (M' := MX4_init) (d' := d - 1) (bc' := 0) (bs' := 0) (as := []) dL_law_20 v_343 ok_X4_init.2.2.1 ok_X4_init.1.1 ok_X4_init.1.2.1 ok_X4_init.2.2.2.1 ok_X4_init.2.2.2.2 ok_X4_init.1.2.2.1 ok_X4_init.1.2.2.2.1 ok_X4_init.2.1 (by omega) ok_X4_init.1.2.2.2.2 m_initOut (Nat.le_of_ble_eq_true rfl) (Nat.zero_le _) (Nat.zero_le _) (det_k ?_) (fun E h' n' _ z => det_x z)
  have J : LI L xs g3 159 s0 0 := ⟨pR.frT (fun i hi => ((congrFun eg3 i).trans ((up_n (by omega)).trans (rfl))).trans (qG i hi)), ⟨0, qR.fr (fun i a b => (congrFun eg3 i).trans ((up_n (by omega)).trans (rfl)))⟩, hT.fr (fun i hi => ((congrFun eg3 i).trans ((up_n (by omega)).trans (rfl))).trans ((qG i (by omega)).trans (pG i hi))), cl_s0 0, ⟨0, .null, zg3⟩, ((congrFun eg3 0).trans ((up_n (by omega)).trans (rfl))).trans ((qG 0 (by decide +kernel)).trans ((pG 0 (by decide +kernel)).trans hs)), Nat.le_refl _⟩
  refine sw_astore_n (pc' := 24) (lv' := [(3, _), (2, _), (1, _), (0, _)]) rfl dL_law_23 (by decide +kernel) rfl ?_
  refine sw_iconst (pc' := 25) (v := 0) rfl dL_law_24 (by decide +kernel) ?_
  refine sw_istore (pc' := 27) (lv' := [(4, _), (3, _), (2, _), (1, _), (0, _)]) rfl dL_law_25 (by decide +kernel) rfl ?_
  exact SW.pick [0, 1, 2, 3, 4] rfl ((ll_loop hL hd hP (L / 6) 0 159 0 194560 2304000 _ s0 J (by omega) (by omega) (by omega) (by omega) (by omega)).bud (by omega) (by omega))
end
section
/-! 59.words -/
/-! what the Statement says of the start -/
theorem bl {a b : Cond} {A : Array Value} {s : State} (h : (Cond.and a b).before A s = true) : a.before A s = true := (Bool.and_eq_true_iff.mp (by rw [← Cond.before_and]; exact h)).1
theorem br {a b : Cond} {A : Array Value} {s : State} (h : (Cond.and a b).before A s = true) : b.before A s = true := (Bool.and_eq_true_iff.mp (by rw [← Cond.before_and]; exact h)).2
def nmK : List String := ["ROW", "RISING", "KEPT", "QUEUE", "TABLE"]
def FK : List (String × String × String × List Int32) := [("Overwalks$Kind", "hasPlaces", "Z", [1, 0, 0, 0, 0]), ("Overwalks$Kind", "takesNothings", "Z", [1, 0, 1, 0, 0]), ("Overwalks$Kind", "hasEachOnce", "Z", [0, 1, 1, 0, 0])]
theorem kd_x {A : Array Value} {s : State} (h : narrow_1.before A s = true) : ∀ i, i < nmK.length → (Cond.exactly (.static "Overwalks$Kind" (nmK.getD i "") "LOverwalks$Kind;") "Overwalks$Kind").before A s = true := by
  intro i hi
  rcases (show i = 0 ∨ i = 1 ∨ i = 2 ∨ i = 3 ∨ i = 4 by have : i < 5 := hi; omega) with rfl | rfl | rfl | rfl | rfl
  · exact (br (br (bl (bl (bl (bl (bl (bl (bl (bl h))))))))))
  · exact (bl (bl (bl (br (bl (bl (bl (bl (bl (bl h))))))))))
  · exact (bl (br (br (br (bl (bl (bl (bl (bl (bl h))))))))))
  · exact (br (bl (br (bl (br (bl (bl (bl (bl (bl h))))))))))
  · exact (br (bl (br (br (br (bl (bl (bl (bl (bl h))))))))))
theorem kd_f0 {A : Array Value} {s : State} (h : narrow_1.before A s = true) : ∀ i, i < nmK.length → (Cond.eq (.field (.static "Overwalks$Kind" (nmK.getD i "") "LOverwalks$Kind;") "Overwalks$Kind" "hasPlaces" "Z") (.int (([1, 0, 0, 0, 0] : List Int32).getD i 0))).before A s = true := by
  intro i hi
  rcases (show i = 0 ∨ i = 1 ∨ i = 2 ∨ i = 3 ∨ i = 4 by have : i < 5 := hi; omega) with rfl | rfl | rfl | rfl | rfl
  · exact (br (bl (br (bl (bl (bl (bl (bl (bl (bl h))))))))))
  · exact (bl (br (bl (br (bl (bl (bl (bl (bl (bl h))))))))))
  · exact (bl (bl (bl (bl (br (bl (bl (bl (bl (bl h))))))))))
  · exact (br (br (br (bl (br (bl (bl (bl (bl (bl h))))))))))
  · exact (br (br (br (br (br (bl (bl (bl (bl (bl h))))))))))
theorem kd_f1 {A : Array Value} {s : State} (h : narrow_1.before A s = true) : ∀ i, i < nmK.length → (Cond.eq (.field (.static "Overwalks$Kind" (nmK.getD i "") "LOverwalks$Kind;") "Overwalks$Kind" "takesNothings" "Z") (.int (([1, 0, 1, 0, 0] : List Int32).getD i 0))).before A s = true := by
  intro i hi
  rcases (show i = 0 ∨ i = 1 ∨ i = 2 ∨ i = 3 ∨ i = 4 by have : i < 5 := hi; omega) with rfl | rfl | rfl | rfl | rfl
  · exact (bl (br (br (bl (bl (bl (bl (bl (bl (bl h))))))))))
  · exact (br (br (bl (br (bl (bl (bl (bl (bl (bl h))))))))))
  · exact (br (bl (bl (bl (br (bl (bl (bl (bl (bl h))))))))))
  · exact (bl (bl (bl (br (br (bl (bl (bl (bl (bl h))))))))))
  · exact (bl (bl (bl (bl (bl (br (bl (bl (bl (bl h))))))))))
theorem kd_f2 {A : Array Value} {s : State} (h : narrow_1.before A s = true) : ∀ i, i < nmK.length → (Cond.eq (.field (.static "Overwalks$Kind" (nmK.getD i "") "LOverwalks$Kind;") "Overwalks$Kind" "hasEachOnce" "Z") (.int (([0, 1, 1, 0, 0] : List Int32).getD i 0))).before A s = true := by
  intro i hi
  rcases (show i = 0 ∨ i = 1 ∨ i = 2 ∨ i = 3 ∨ i = 4 by have : i < 5 := hi; omega) with rfl | rfl | rfl | rfl | rfl
  · exact (br (br (br (bl (bl (bl (bl (bl (bl (bl h))))))))))
  · exact (bl (bl (br (br (bl (bl (bl (bl (bl (bl h))))))))))
  · exact (bl (br (bl (bl (br (bl (bl (bl (bl (bl h))))))))))
  · exact (br (bl (bl (br (br (bl (bl (bl (bl (bl h))))))))))
  · exact (br (bl (bl (bl (bl (br (bl (bl (bl (bl h))))))))))
theorem kd_f {A : Array Value} {s : State} (h : narrow_1.before A s = true) : ∀ q ∈ FK, ∀ i, i < nmK.length → (Cond.eq (.field (.static "Overwalks$Kind" (nmK.getD i "") "LOverwalks$Kind;") q.1 q.2.1 q.2.2.1) (.int (q.2.2.2.getD i 0))).before A s = true := by
  intro q hq
  rcases List.mem_cons.mp hq with rfl | hq
  · exact kd_f0 h
  rcases List.mem_cons.mp hq with rfl | hq
  · exact kd_f1 h
  rcases List.mem_singleton.mp hq with rfl
  exact kd_f2 h
theorem kd_d {A : Array Value} {s : State} (h : narrow_1.before A s = true) : ∀ i j, i < nmK.length → j < nmK.length → i ≠ j → (Cond.not (.eq (.static "Overwalks$Kind" (nmK.getD i "") "LOverwalks$Kind;") (.static "Overwalks$Kind" (nmK.getD j "") "LOverwalks$Kind;"))).before A s = true ∨ (Cond.not (.eq (.static "Overwalks$Kind" (nmK.getD j "") "LOverwalks$Kind;") (.static "Overwalks$Kind" (nmK.getD i "") "LOverwalks$Kind;"))).before A s = true := by
  intro i j hi hj hne
  rcases (show i = 0 ∨ i = 1 ∨ i = 2 ∨ i = 3 ∨ i = 4 by have : i < 5 := hi; omega) with rfl | rfl | rfl | rfl | rfl <;> rcases (show j = 0 ∨ j = 1 ∨ j = 2 ∨ j = 3 ∨ j = 4 by have : j < 5 := hj; omega) with rfl | rfl | rfl | rfl | rfl
  · exact absurd rfl hne
  · exact Or.inl (br (bl (br (br (bl (bl (bl (bl (bl (bl h))))))))))
  · exact Or.inl (br (br (bl (bl (br (bl (bl (bl (bl (bl h))))))))))
  · exact Or.inl (bl (br (bl (br (br (bl (bl (bl (bl (bl h))))))))))
  · exact Or.inl (bl (br (bl (bl (bl (br (bl (bl (bl (bl h))))))))))
  · exact Or.inr (br (bl (br (br (bl (bl (bl (bl (bl (bl h))))))))))
  · exact absurd rfl hne
  · exact Or.inl (bl (bl (br (bl (br (bl (bl (bl (bl (bl h))))))))))
  · exact Or.inl (br (br (bl (br (br (bl (bl (bl (bl (bl h))))))))))
  · exact Or.inl (br (br (bl (bl (bl (br (bl (bl (bl (bl h))))))))))
  · exact Or.inr (br (br (bl (bl (br (bl (bl (bl (bl (bl h))))))))))
  · exact Or.inr (bl (bl (br (bl (br (bl (bl (bl (bl (bl h))))))))))
  · exact absurd rfl hne
  · exact Or.inl (bl (bl (br (br (br (bl (bl (bl (bl (bl h))))))))))
  · exact Or.inl (bl (bl (br (bl (bl (br (bl (bl (bl (bl h))))))))))
  · exact Or.inr (bl (br (bl (br (br (bl (bl (bl (bl (bl h))))))))))
  · exact Or.inr (br (br (bl (br (br (bl (bl (bl (bl (bl h))))))))))
  · exact Or.inr (bl (bl (br (br (br (bl (bl (bl (bl (bl h))))))))))
  · exact absurd rfl hne
  · exact Or.inl (br (bl (br (bl (bl (br (bl (bl (bl (bl h))))))))))
  · exact Or.inr (bl (br (bl (bl (bl (br (bl (bl (bl (bl h))))))))))
  · exact Or.inr (br (br (bl (bl (bl (br (bl (bl (bl (bl h))))))))))
  · exact Or.inr (bl (bl (br (bl (bl (br (bl (bl (bl (bl h))))))))))
  · exact Or.inr (br (bl (br (bl (bl (br (bl (bl (bl (bl h))))))))))
  · exact absurd rfl hne
theorem kd_l : ∀ i, i < nmK.length → Cond.laysStatic "Overwalks$Kind" (nmK.getD i "") "LOverwalks$Kind;" ∈ tables_1 := by decide +kernel
def tmD : Term := .static "java/lang/Integer" "DigitTens" "[B"
def tmO : Term := .static "java/lang/Integer" "DigitOnes" "[B"
theorem dg_t0 {A : Array Value} {s : State} (h : narrow_1.before A s = true) : ∀ i, i < 10 → (Cond.eq (.elem tmD (.int (Int32.ofNat (0 + i)))) (.int (Int32.ofNat (48 + 0)))).before A s = true := by
  intro i hi
  rcases (show i = 0 ∨ i = 1 ∨ i = 2 ∨ i = 3 ∨ i = 4 ∨ i = 5 ∨ i = 6 ∨ i = 7 ∨ i = 8 ∨ i = 9 by omega) with rfl | rfl | rfl | rfl | rfl | rfl | rfl | rfl | rfl | rfl
  · exact (br (br (br (bl (br (bl (bl (br (bl (bl h))))))))))
  · exact (bl (bl (bl (br (br (bl (bl (br (bl (bl h))))))))))
  · exact (br (bl (bl (br (br (bl (bl (br (bl (bl h))))))))))
  · exact (bl (br (bl (br (br (bl (bl (br (bl (bl h))))))))))
  · exact (br (br (bl (br (br (bl (bl (br (bl (bl h))))))))))
  · exact (bl (bl (br (br (br (bl (bl (br (bl (bl h))))))))))
  · exact (br (bl (br (br (br (bl (bl (br (bl (bl h))))))))))
  · exact (bl (br (br (br (br (bl (bl (br (bl (bl h))))))))))
  · exact (br (br (br (br (br (bl (bl (br (bl (bl h))))))))))
  · exact (bl (bl (bl (bl (bl (br (bl (br (bl (bl h))))))))))
theorem dg_t1 {A : Array Value} {s : State} (h : narrow_1.before A s = true) : ∀ i, i < 10 → (Cond.eq (.elem tmD (.int (Int32.ofNat (10 + i)))) (.int (Int32.ofNat (48 + 1)))).before A s = true := by
  intro i hi
  rcases (show i = 0 ∨ i = 1 ∨ i = 2 ∨ i = 3 ∨ i = 4 ∨ i = 5 ∨ i = 6 ∨ i = 7 ∨ i = 8 ∨ i = 9 by omega) with rfl | rfl | rfl | rfl | rfl | rfl | rfl | rfl | rfl | rfl
  · exact (br (bl (bl (bl (bl (br (bl (br (bl (bl h))))))))))
  · exact (bl (br (bl (bl (bl (br (bl (br (bl (bl h))))))))))
  · exact (br (br (bl (bl (bl (br (bl (br (bl (bl h))))))))))
  · exact (bl (bl (br (bl (bl (br (bl (br (bl (bl h))))))))))
  · exact (br (bl (br (bl (bl (br (bl (br (bl (bl h))))))))))
  · exact (bl (br (br (bl (bl (br (bl (br (bl (bl h))))))))))
  · exact (br (br (br (bl (bl (br (bl (br (bl (bl h))))))))))
  · exact (bl (bl (bl (br (bl (br (bl (br (bl (bl h))))))))))
  · exact (br (bl (bl (br (bl (br (bl (br (bl (bl h))))))))))
  · exact (bl (br (bl (br (bl (br (bl (br (bl (bl h))))))))))
theorem dg_t2 {A : Array Value} {s : State} (h : narrow_1.before A s = true) : ∀ i, i < 10 → (Cond.eq (.elem tmD (.int (Int32.ofNat (20 + i)))) (.int (Int32.ofNat (48 + 2)))).before A s = true := by
  intro i hi
  rcases (show i = 0 ∨ i = 1 ∨ i = 2 ∨ i = 3 ∨ i = 4 ∨ i = 5 ∨ i = 6 ∨ i = 7 ∨ i = 8 ∨ i = 9 by omega) with rfl | rfl | rfl | rfl | rfl | rfl | rfl | rfl | rfl | rfl
  · exact (br (br (bl (br (bl (br (bl (br (bl (bl h))))))))))
  · exact (bl (bl (br (br (bl (br (bl (br (bl (bl h))))))))))
  · exact (br (bl (br (br (bl (br (bl (br (bl (bl h))))))))))
  · exact (bl (br (br (br (bl (br (bl (br (bl (bl h))))))))))
  · exact (br (br (br (br (bl (br (bl (br (bl (bl h))))))))))
  · exact (bl (bl (bl (bl (br (br (bl (br (bl (bl h))))))))))
  · exact (br (bl (bl (bl (br (br (bl (br (bl (bl h))))))))))
  · exact (bl (br (bl (bl (br (br (bl (br (bl (bl h))))))))))
  · exact (br (br (bl (bl (br (br (bl (br (bl (bl h))))))))))
  · exact (bl (bl (br (bl (br (br (bl (br (bl (bl h))))))))))
theorem dg_t3 {A : Array Value} {s : State} (h : narrow_1.before A s = true) : ∀ i, i < 10 → (Cond.eq (.elem tmD (.int (Int32.ofNat (30 + i)))) (.int (Int32.ofNat (48 + 3)))).before A s = true := by
  intro i hi
  rcases (show i = 0 ∨ i = 1 ∨ i = 2 ∨ i = 3 ∨ i = 4 ∨ i = 5 ∨ i = 6 ∨ i = 7 ∨ i = 8 ∨ i = 9 by omega) with rfl | rfl | rfl | rfl | rfl | rfl | rfl | rfl | rfl | rfl
  · exact (br (bl (br (bl (br (br (bl (br (bl (bl h))))))))))
  · exact (bl (br (br (bl (br (br (bl (br (bl (bl h))))))))))
  · exact (br (br (br (bl (br (br (bl (br (bl (bl h))))))))))
  · exact (bl (bl (bl (br (br (br (bl (br (bl (bl h))))))))))
  · exact (br (bl (bl (br (br (br (bl (br (bl (bl h))))))))))
  · exact (bl (br (bl (br (br (br (bl (br (bl (bl h))))))))))
  · exact (br (br (bl (br (br (br (bl (br (bl (bl h))))))))))
  · exact (bl (bl (br (br (br (br (bl (br (bl (bl h))))))))))
  · exact (br (bl (br (br (br (br (bl (br (bl (bl h))))))))))
  · exact (bl (br (br (br (br (br (bl (br (bl (bl h))))))))))
theorem dg_t4 {A : Array Value} {s : State} (h : narrow_1.before A s = true) : ∀ i, i < 10 → (Cond.eq (.elem tmD (.int (Int32.ofNat (40 + i)))) (.int (Int32.ofNat (48 + 4)))).before A s = true := by
  intro i hi
  rcases (show i = 0 ∨ i = 1 ∨ i = 2 ∨ i = 3 ∨ i = 4 ∨ i = 5 ∨ i = 6 ∨ i = 7 ∨ i = 8 ∨ i = 9 by omega) with rfl | rfl | rfl | rfl | rfl | rfl | rfl | rfl | rfl | rfl
  · exact (br (br (br (br (br (br (bl (br (bl (bl h))))))))))
  · exact (bl (bl (bl (bl (bl (bl (br (br (bl (bl h))))))))))
  · exact (br (bl (bl (bl (bl (bl (br (br (bl (bl h))))))))))
  · exact (bl (br (bl (bl (bl (bl (br (br (bl (bl h))))))))))
  · exact (br (br (bl (bl (bl (bl (br (br (bl (bl h))))))))))
  · exact (bl (bl (br (bl (bl (bl (br (br (bl (bl h))))))))))
  · exact (br (bl (br (bl (bl (bl (br (br (bl (bl h))))))))))
  · exact (bl (br (br (bl (bl (bl (br (br (bl (bl h))))))))))
  · exact (br (br (br (bl (bl (bl (br (br (bl (bl h))))))))))
  · exact (bl (bl (bl (br (bl (bl (br (br (bl (bl h))))))))))
theorem dg_t5 {A : Array Value} {s : State} (h : narrow_1.before A s = true) : ∀ i, i < 10 → (Cond.eq (.elem tmD (.int (Int32.ofNat (50 + i)))) (.int (Int32.ofNat (48 + 5)))).before A s = true := by
  intro i hi
  rcases (show i = 0 ∨ i = 1 ∨ i = 2 ∨ i = 3 ∨ i = 4 ∨ i = 5 ∨ i = 6 ∨ i = 7 ∨ i = 8 ∨ i = 9 by omega) with rfl | rfl | rfl | rfl | rfl | rfl | rfl | rfl | rfl | rfl
  · exact (br (bl (bl (br (bl (bl (br (br (bl (bl h))))))))))
  · exact (bl (br (bl (br (bl (bl (br (br (bl (bl h))))))))))
  · exact (br (br (bl (br (bl (bl (br (br (bl (bl h))))))))))
  · exact (bl (bl (br (br (bl (bl (br (br (bl (bl h))))))))))
  · exact (br (bl (br (br (bl (bl (br (br (bl (bl h))))))))))
  · exact (bl (br (br (br (bl (bl (br (br (bl (bl h))))))))))
  · exact (br (br (br (br (bl (bl (br (br (bl (bl h))))))))))
  · exact (bl (bl (bl (bl (br (bl (br (br (bl (bl h))))))))))
  · exact (br (bl (bl (bl (br (bl (br (br (bl (bl h))))))))))
  · exact (bl (br (bl (bl (br (bl (br (br (bl (bl h))))))))))
theorem dg_t6 {A : Array Value} {s : State} (h : narrow_1.before A s = true) : ∀ i, i < 10 → (Cond.eq (.elem tmD (.int (Int32.ofNat (60 + i)))) (.int (Int32.ofNat (48 + 6)))).before A s = true := by
  intro i hi
  rcases (show i = 0 ∨ i = 1 ∨ i = 2 ∨ i = 3 ∨ i = 4 ∨ i = 5 ∨ i = 6 ∨ i = 7 ∨ i = 8 ∨ i = 9 by omega) with rfl | rfl | rfl | rfl | rfl | rfl | rfl | rfl | rfl | rfl
  · exact (br (br (bl (bl (br (bl (br (br (bl (bl h))))))))))
  · exact (bl (bl (br (bl (br (bl (br (br (bl (bl h))))))))))
  · exact (br (bl (br (bl (br (bl (br (br (bl (bl h))))))))))
  · exact (bl (br (br (bl (br (bl (br (br (bl (bl h))))))))))
  · exact (br (br (br (bl (br (bl (br (br (bl (bl h))))))))))
  · exact (bl (bl (bl (br (br (bl (br (br (bl (bl h))))))))))
  · exact (br (bl (bl (br (br (bl (br (br (bl (bl h))))))))))
  · exact (bl (br (bl (br (br (bl (br (br (bl (bl h))))))))))
  · exact (br (br (bl (br (br (bl (br (br (bl (bl h))))))))))
  · exact (bl (bl (br (br (br (bl (br (br (bl (bl h))))))))))
theorem dg_t7 {A : Array Value} {s : State} (h : narrow_1.before A s = true) : ∀ i, i < 10 → (Cond.eq (.elem tmD (.int (Int32.ofNat (70 + i)))) (.int (Int32.ofNat (48 + 7)))).before A s = true := by
  intro i hi
  rcases (show i = 0 ∨ i = 1 ∨ i = 2 ∨ i = 3 ∨ i = 4 ∨ i = 5 ∨ i = 6 ∨ i = 7 ∨ i = 8 ∨ i = 9 by omega) with rfl | rfl | rfl | rfl | rfl | rfl | rfl | rfl | rfl | rfl
  · exact (br (bl (br (br (br (bl (br (br (bl (bl h))))))))))
  · exact (bl (br (br (br (br (bl (br (br (bl (bl h))))))))))
  · exact (br (br (br (br (br (bl (br (br (bl (bl h))))))))))
  · exact (bl (bl (bl (bl (bl (br (br (br (bl (bl h))))))))))
  · exact (br (bl (bl (bl (bl (br (br (br (bl (bl h))))))))))
  · exact (bl (br (bl (bl (bl (br (br (br (bl (bl h))))))))))
  · exact (br (br (bl (bl (bl (br (br (br (bl (bl h))))))))))
  · exact (bl (bl (br (bl (bl (br (br (br (bl (bl h))))))))))
  · exact (br (bl (br (bl (bl (br (br (br (bl (bl h))))))))))
  · exact (bl (br (br (bl (bl (br (br (br (bl (bl h))))))))))
theorem dg_t8 {A : Array Value} {s : State} (h : narrow_1.before A s = true) : ∀ i, i < 10 → (Cond.eq (.elem tmD (.int (Int32.ofNat (80 + i)))) (.int (Int32.ofNat (48 + 8)))).before A s = true := by
  intro i hi
  rcases (show i = 0 ∨ i = 1 ∨ i = 2 ∨ i = 3 ∨ i = 4 ∨ i = 5 ∨ i = 6 ∨ i = 7 ∨ i = 8 ∨ i = 9 by omega) with rfl | rfl | rfl | rfl | rfl | rfl | rfl | rfl | rfl | rfl
  · exact (br (br (br (bl (bl (br (br (br (bl (bl h))))))))))
  · exact (bl (bl (bl (br (bl (br (br (br (bl (bl h))))))))))
  · exact (br (bl (bl (br (bl (br (br (br (bl (bl h))))))))))
  · exact (bl (br (bl (br (bl (br (br (br (bl (bl h))))))))))
  · exact (br (br (bl (br (bl (br (br (br (bl (bl h))))))))))
  · exact (bl (bl (br (br (bl (br (br (br (bl (bl h))))))))))
  · exact (br (bl (br (br (bl (br (br (br (bl (bl h))))))))))
  · exact (bl (br (br (br (bl (br (br (br (bl (bl h))))))))))
  · exact (br (br (br (br (bl (br (br (br (bl (bl h))))))))))
  · exact (bl (bl (bl (bl (br (br (br (br (bl (bl h))))))))))
theorem dg_t9 {A : Array Value} {s : State} (h : narrow_1.before A s = true) : ∀ i, i < 10 → (Cond.eq (.elem tmD (.int (Int32.ofNat (90 + i)))) (.int (Int32.ofNat (48 + 9)))).before A s = true := by
  intro i hi
  rcases (show i = 0 ∨ i = 1 ∨ i = 2 ∨ i = 3 ∨ i = 4 ∨ i = 5 ∨ i = 6 ∨ i = 7 ∨ i = 8 ∨ i = 9 by omega) with rfl | rfl | rfl | rfl | rfl | rfl | rfl | rfl | rfl | rfl
  · exact (br (bl (bl (bl (br (br (br (br (bl (bl h))))))))))
  · exact (bl (br (bl (bl (br (br (br (br (bl (bl h))))))))))
  · exact (br (br (bl (bl (br (br (br (br (bl (bl h))))))))))
  · exact (bl (bl (br (bl (br (br (br (br (bl (bl h))))))))))
  · exact (br (bl (br (bl (br (br (br (br (bl (bl h))))))))))
  · exact (bl (br (br (bl (br (br (br (br (bl (bl h))))))))))
  · exact (br (br (br (bl (br (br (br (br (bl (bl h))))))))))
  · exact (bl (bl (bl (br (br (br (br (br (bl (bl h))))))))))
  · exact (br (bl (bl (br (br (br (br (br (bl (bl h))))))))))
  · exact (bl (br (bl (br (br (br (br (br (bl (bl h))))))))))
theorem dg_t {A : Array Value} {s : State} (h : narrow_1.before A s = true) : ∀ j, j < 100 → (Cond.eq (.elem tmD (.int (Int32.ofNat j))) (.int (Int32.ofNat (48 + j / 10)))).before A s = true := by
  intro j hj
  have hi : j % 10 < 10 := Nat.mod_lt _ (by decide +kernel)
  have e := Nat.div_add_mod j 10
  rcases (show j / 10 = 0 ∨ j / 10 = 1 ∨ j / 10 = 2 ∨ j / 10 = 3 ∨ j / 10 = 4 ∨ j / 10 = 5 ∨ j / 10 = 6 ∨ j / 10 = 7 ∨ j / 10 = 8 ∨ j / 10 = 9 by omega) with q | q | q | q | q | q | q | q | q | q
  · have k9 := dg_t0 h (j % 10) hi
    rw [show 0 + j % 10 = j by omega] at k9
    rw [q]
    exact k9
  · have k9 := dg_t1 h (j % 10) hi
    rw [show 10 + j % 10 = j by omega] at k9
    rw [q]
    exact k9
  · have k9 := dg_t2 h (j % 10) hi
    rw [show 20 + j % 10 = j by omega] at k9
    rw [q]
    exact k9
  · have k9 := dg_t3 h (j % 10) hi
    rw [show 30 + j % 10 = j by omega] at k9
    rw [q]
    exact k9
  · have k9 := dg_t4 h (j % 10) hi
    rw [show 40 + j % 10 = j by omega] at k9
    rw [q]
    exact k9
  · have k9 := dg_t5 h (j % 10) hi
    rw [show 50 + j % 10 = j by omega] at k9
    rw [q]
    exact k9
  · have k9 := dg_t6 h (j % 10) hi
    rw [show 60 + j % 10 = j by omega] at k9
    rw [q]
    exact k9
  · have k9 := dg_t7 h (j % 10) hi
    rw [show 70 + j % 10 = j by omega] at k9
    rw [q]
    exact k9
  · have k9 := dg_t8 h (j % 10) hi
    rw [show 80 + j % 10 = j by omega] at k9
    rw [q]
    exact k9
  · have k9 := dg_t9 h (j % 10) hi
    rw [show 90 + j % 10 = j by omega] at k9
    rw [q]
    exact k9
theorem dg_tl {A : Array Value} {s : State} (h : narrow_1.before A s = true) : (Cond.eq (.length tmD) (.int (Int32.ofNat 100))).before A s = true := (bl (br (br (bl (br (bl (bl (br (bl (bl h))))))))))
theorem dg_ta {A : Array Value} {s : State} (h : narrow_1.before A s = true) : (Cond.arrayOf tmD .byte).before A s = true := (br (bl (br (bl (br (bl (bl (br (bl (bl h))))))))))
theorem dg_o0 {A : Array Value} {s : State} (h : narrow_1.before A s = true) : ∀ i, i < 10 → (Cond.eq (.elem tmO (.int (Int32.ofNat (0 + i)))) (.int (Int32.ofNat (48 + i)))).before A s = true := by
  intro i hi
  rcases (show i = 0 ∨ i = 1 ∨ i = 2 ∨ i = 3 ∨ i = 4 ∨ i = 5 ∨ i = 6 ∨ i = 7 ∨ i = 8 ∨ i = 9 by omega) with rfl | rfl | rfl | rfl | rfl | rfl | rfl | rfl | rfl | rfl
  · exact (bl (bl (bl (bl (br (br (bl (bl (bl (bl h))))))))))
  · exact (br (bl (bl (bl (br (br (bl (bl (bl (bl h))))))))))
  · exact (bl (br (bl (bl (br (br (bl (bl (bl (bl h))))))))))
  · exact (br (br (bl (bl (br (br (bl (bl (bl (bl h))))))))))
  · exact (bl (bl (br (bl (br (br (bl (bl (bl (bl h))))))))))
  · exact (br (bl (br (bl (br (br (bl (bl (bl (bl h))))))))))
  · exact (bl (br (br (bl (br (br (bl (bl (bl (bl h))))))))))
  · exact (br (br (br (bl (br (br (bl (bl (bl (bl h))))))))))
  · exact (bl (bl (bl (br (br (br (bl (bl (bl (bl h))))))))))
  · exact (br (bl (bl (br (br (br (bl (bl (bl (bl h))))))))))
theorem dg_o1 {A : Array Value} {s : State} (h : narrow_1.before A s = true) : ∀ i, i < 10 → (Cond.eq (.elem tmO (.int (Int32.ofNat (10 + i)))) (.int (Int32.ofNat (48 + i)))).before A s = true := by
  intro i hi
  rcases (show i = 0 ∨ i = 1 ∨ i = 2 ∨ i = 3 ∨ i = 4 ∨ i = 5 ∨ i = 6 ∨ i = 7 ∨ i = 8 ∨ i = 9 by omega) with rfl | rfl | rfl | rfl | rfl | rfl | rfl | rfl | rfl | rfl
  · exact (bl (br (bl (br (br (br (bl (bl (bl (bl h))))))))))
  · exact (br (br (bl (br (br (br (bl (bl (bl (bl h))))))))))
  · exact (bl (bl (br (br (br (br (bl (bl (bl (bl h))))))))))
  · exact (br (bl (br (br (br (br (bl (bl (bl (bl h))))))))))
  · exact (bl (br (br (br (br (br (bl (bl (bl (bl h))))))))))
  · exact (br (br (br (br (br (br (bl (bl (bl (bl h))))))))))
  · exact (bl (bl (bl (bl (bl (bl (br (bl (bl (bl h))))))))))
  · exact (br (bl (bl (bl (bl (bl (br (bl (bl (bl h))))))))))
  · exact (bl (br (bl (bl (bl (bl (br (bl (bl (bl h))))))))))
  · exact (br (br (bl (bl (bl (bl (br (bl (bl (bl h))))))))))
theorem dg_o2 {A : Array Value} {s : State} (h : narrow_1.before A s = true) : ∀ i, i < 10 → (Cond.eq (.elem tmO (.int (Int32.ofNat (20 + i)))) (.int (Int32.ofNat (48 + i)))).before A s = true := by
  intro i hi
  rcases (show i = 0 ∨ i = 1 ∨ i = 2 ∨ i = 3 ∨ i = 4 ∨ i = 5 ∨ i = 6 ∨ i = 7 ∨ i = 8 ∨ i = 9 by omega) with rfl | rfl | rfl | rfl | rfl | rfl | rfl | rfl | rfl | rfl
  · exact (bl (bl (br (bl (bl (bl (br (bl (bl (bl h))))))))))
  · exact (br (bl (br (bl (bl (bl (br (bl (bl (bl h))))))))))
  · exact (bl (br (br (bl (bl (bl (br (bl (bl (bl h))))))))))
  · exact (br (br (br (bl (bl (bl (br (bl (bl (bl h))))))))))
  · exact (bl (bl (bl (br (bl (bl (br (bl (bl (bl h))))))))))
  · exact (br (bl (bl (br (bl (bl (br (bl (bl (bl h))))))))))
  · exact (bl (br (bl (br (bl (bl (br (bl (bl (bl h))))))))))
  · exact (br (br (bl (br (bl (bl (br (bl (bl (bl h))))))))))
  · exact (bl (bl (br (br (bl (bl (br (bl (bl (bl h))))))))))
  · exact (br (bl (br (br (bl (bl (br (bl (bl (bl h))))))))))
theorem dg_o3 {A : Array Value} {s : State} (h : narrow_1.before A s = true) : ∀ i, i < 10 → (Cond.eq (.elem tmO (.int (Int32.ofNat (30 + i)))) (.int (Int32.ofNat (48 + i)))).before A s = true := by
  intro i hi
  rcases (show i = 0 ∨ i = 1 ∨ i = 2 ∨ i = 3 ∨ i = 4 ∨ i = 5 ∨ i = 6 ∨ i = 7 ∨ i = 8 ∨ i = 9 by omega) with rfl | rfl | rfl | rfl | rfl | rfl | rfl | rfl | rfl | rfl
  · exact (bl (br (br (br (bl (bl (br (bl (bl (bl h))))))))))
  · exact (br (br (br (br (bl (bl (br (bl (bl (bl h))))))))))
  · exact (bl (bl (bl (bl (br (bl (br (bl (bl (bl h))))))))))
  · exact (br (bl (bl (bl (br (bl (br (bl (bl (bl h))))))))))
  · exact (bl (br (bl (bl (br (bl (br (bl (bl (bl h))))))))))
  · exact (br (br (bl (bl (br (bl (br (bl (bl (bl h))))))))))
  · exact (bl (bl (br (bl (br (bl (br (bl (bl (bl h))))))))))
  · exact (br (bl (br (bl (br (bl (br (bl (bl (bl h))))))))))
  · exact (bl (br (br (bl (br (bl (br (bl (bl (bl h))))))))))
  · exact (br (br (br (bl (br (bl (br (bl (bl (bl h))))))))))
theorem dg_o4 {A : Array Value} {s : State} (h : narrow_1.before A s = true) : ∀ i, i < 10 → (Cond.eq (.elem tmO (.int (Int32.ofNat (40 + i)))) (.int (Int32.ofNat (48 + i)))).before A s = true := by
  intro i hi
  rcases (show i = 0 ∨ i = 1 ∨ i = 2 ∨ i = 3 ∨ i = 4 ∨ i = 5 ∨ i = 6 ∨ i = 7 ∨ i = 8 ∨ i = 9 by omega) with rfl | rfl | rfl | rfl | rfl | rfl | rfl | rfl | rfl | rfl
  · exact (bl (bl (bl (br (br (bl (br (bl (bl (bl h))))))))))
  · exact (br (bl (bl (br (br (bl (br (bl (bl (bl h))))))))))
  · exact (bl (br (bl (br (br (bl (br (bl (bl (bl h))))))))))
  · exact (br (br (bl (br (br (bl (br (bl (bl (bl h))))))))))
  · exact (bl (bl (br (br (br (bl (br (bl (bl (bl h))))))))))
  · exact (br (bl (br (br (br (bl (br (bl (bl (bl h))))))))))
  · exact (bl (br (br (br (br (bl (br (bl (bl (bl h))))))))))
  · exact (br (br (br (br (br (bl (br (bl (bl (bl h))))))))))
  · exact (bl (bl (bl (bl (bl (br (br (bl (bl (bl h))))))))))
  · exact (br (bl (bl (bl (bl (br (br (bl (bl (bl h))))))))))
theorem dg_o5 {A : Array Value} {s : State} (h : narrow_1.before A s = true) : ∀ i, i < 10 → (Cond.eq (.elem tmO (.int (Int32.ofNat (50 + i)))) (.int (Int32.ofNat (48 + i)))).before A s = true := by
  intro i hi
  rcases (show i = 0 ∨ i = 1 ∨ i = 2 ∨ i = 3 ∨ i = 4 ∨ i = 5 ∨ i = 6 ∨ i = 7 ∨ i = 8 ∨ i = 9 by omega) with rfl | rfl | rfl | rfl | rfl | rfl | rfl | rfl | rfl | rfl
  · exact (bl (br (bl (bl (bl (br (br (bl (bl (bl h))))))))))
  · exact (br (br (bl (bl (bl (br (br (bl (bl (bl h))))))))))
  · exact (bl (bl (br (bl (bl (br (br (bl (bl (bl h))))))))))
  · exact (br (bl (br (bl (bl (br (br (bl (bl (bl h))))))))))
  · exact (bl (br (br (bl (bl (br (br (bl (bl (bl h))))))))))
  · exact (br (br (br (bl (bl (br (br (bl (bl (bl h))))))))))
  · exact (bl (bl (bl (br (bl (br (br (bl (bl (bl h))))))))))
  · exact (br (bl (bl (br (bl (br (br (bl (bl (bl h))))))))))
  · exact (bl (br (bl (br (bl (br (br (bl (bl (bl h))))))))))
  · exact (br (br (bl (br (bl (br (br (bl (bl (bl h))))))))))
theorem dg_o6 {A : Array Value} {s : State} (h : narrow_1.before A s = true) : ∀ i, i < 10 → (Cond.eq (.elem tmO (.int (Int32.ofNat (60 + i)))) (.int (Int32.ofNat (48 + i)))).before A s = true := by
  intro i hi
  rcases (show i = 0 ∨ i = 1 ∨ i = 2 ∨ i = 3 ∨ i = 4 ∨ i = 5 ∨ i = 6 ∨ i = 7 ∨ i = 8 ∨ i = 9 by omega) with rfl | rfl | rfl | rfl | rfl | rfl | rfl | rfl | rfl | rfl
  · exact (bl (bl (br (br (bl (br (br (bl (bl (bl h))))))))))
  · exact (br (bl (br (br (bl (br (br (bl (bl (bl h))))))))))
  · exact (bl (br (br (br (bl (br (br (bl (bl (bl h))))))))))
  · exact (br (br (br (br (bl (br (br (bl (bl (bl h))))))))))
  · exact (bl (bl (bl (bl (br (br (br (bl (bl (bl h))))))))))
  · exact (br (bl (bl (bl (br (br (br (bl (bl (bl h))))))))))
  · exact (bl (br (bl (bl (br (br (br (bl (bl (bl h))))))))))
  · exact (br (br (bl (bl (br (br (br (bl (bl (bl h))))))))))
  · exact (bl (bl (br (bl (br (br (br (bl (bl (bl h))))))))))
  · exact (br (bl (br (bl (br (br (br (bl (bl (bl h))))))))))
theorem dg_o7 {A : Array Value} {s : State} (h : narrow_1.before A s = true) : ∀ i, i < 10 → (Cond.eq (.elem tmO (.int (Int32.ofNat (70 + i)))) (.int (Int32.ofNat (48 + i)))).before A s = true := by
  intro i hi
  rcases (show i = 0 ∨ i = 1 ∨ i = 2 ∨ i = 3 ∨ i = 4 ∨ i = 5 ∨ i = 6 ∨ i = 7 ∨ i = 8 ∨ i = 9 by omega) with rfl | rfl | rfl | rfl | rfl | rfl | rfl | rfl | rfl | rfl
  · exact (bl (br (br (bl (br (br (br (bl (bl (bl h))))))))))
  · exact (br (br (br (bl (br (br (br (bl (bl (bl h))))))))))
  · exact (bl (bl (bl (br (br (br (br (bl (bl (bl h))))))))))
  · exact (br (bl (bl (br (br (br (br (bl (bl (bl h))))))))))
  · exact (bl (br (bl (br (br (br (br (bl (bl (bl h))))))))))
  · exact (br (br (bl (br (br (br (br (bl (bl (bl h))))))))))
  · exact (bl (bl (br (br (br (br (br (bl (bl (bl h))))))))))
  · exact (br (bl (br (br (br (br (br (bl (bl (bl h))))))))))
  · exact (bl (br (br (br (br (br (br (bl (bl (bl h))))))))))
  · exact (br (br (br (br (br (br (br (bl (bl (bl h))))))))))
theorem dg_o8 {A : Array Value} {s : State} (h : narrow_1.before A s = true) : ∀ i, i < 10 → (Cond.eq (.elem tmO (.int (Int32.ofNat (80 + i)))) (.int (Int32.ofNat (48 + i)))).before A s = true := by
  intro i hi
  rcases (show i = 0 ∨ i = 1 ∨ i = 2 ∨ i = 3 ∨ i = 4 ∨ i = 5 ∨ i = 6 ∨ i = 7 ∨ i = 8 ∨ i = 9 by omega) with rfl | rfl | rfl | rfl | rfl | rfl | rfl | rfl | rfl | rfl
  · exact (bl (bl (bl (bl (bl (bl (bl (br (bl (bl h))))))))))
  · exact (br (bl (bl (bl (bl (bl (bl (br (bl (bl h))))))))))
  · exact (bl (br (bl (bl (bl (bl (bl (br (bl (bl h))))))))))
  · exact (br (br (bl (bl (bl (bl (bl (br (bl (bl h))))))))))
  · exact (bl (bl (br (bl (bl (bl (bl (br (bl (bl h))))))))))
  · exact (br (bl (br (bl (bl (bl (bl (br (bl (bl h))))))))))
  · exact (bl (br (br (bl (bl (bl (bl (br (bl (bl h))))))))))
  · exact (br (br (br (bl (bl (bl (bl (br (bl (bl h))))))))))
  · exact (bl (bl (bl (br (bl (bl (bl (br (bl (bl h))))))))))
  · exact (br (bl (bl (br (bl (bl (bl (br (bl (bl h))))))))))
theorem dg_o9 {A : Array Value} {s : State} (h : narrow_1.before A s = true) : ∀ i, i < 10 → (Cond.eq (.elem tmO (.int (Int32.ofNat (90 + i)))) (.int (Int32.ofNat (48 + i)))).before A s = true := by
  intro i hi
  rcases (show i = 0 ∨ i = 1 ∨ i = 2 ∨ i = 3 ∨ i = 4 ∨ i = 5 ∨ i = 6 ∨ i = 7 ∨ i = 8 ∨ i = 9 by omega) with rfl | rfl | rfl | rfl | rfl | rfl | rfl | rfl | rfl | rfl
  · exact (bl (br (bl (br (bl (bl (bl (br (bl (bl h))))))))))
  · exact (br (br (bl (br (bl (bl (bl (br (bl (bl h))))))))))
  · exact (bl (bl (br (br (bl (bl (bl (br (bl (bl h))))))))))
  · exact (br (bl (br (br (bl (bl (bl (br (bl (bl h))))))))))
  · exact (bl (br (br (br (bl (bl (bl (br (bl (bl h))))))))))
  · exact (br (br (br (br (bl (bl (bl (br (bl (bl h))))))))))
  · exact (bl (bl (bl (bl (br (bl (bl (br (bl (bl h))))))))))
  · exact (br (bl (bl (bl (br (bl (bl (br (bl (bl h))))))))))
  · exact (bl (br (bl (bl (br (bl (bl (br (bl (bl h))))))))))
  · exact (br (br (bl (bl (br (bl (bl (br (bl (bl h))))))))))
theorem dg_o {A : Array Value} {s : State} (h : narrow_1.before A s = true) : ∀ j, j < 100 → (Cond.eq (.elem tmO (.int (Int32.ofNat j))) (.int (Int32.ofNat (48 + j % 10)))).before A s = true := by
  intro j hj
  have hi : j % 10 < 10 := Nat.mod_lt _ (by decide +kernel)
  have e := Nat.div_add_mod j 10
  rcases (show j / 10 = 0 ∨ j / 10 = 1 ∨ j / 10 = 2 ∨ j / 10 = 3 ∨ j / 10 = 4 ∨ j / 10 = 5 ∨ j / 10 = 6 ∨ j / 10 = 7 ∨ j / 10 = 8 ∨ j / 10 = 9 by omega) with q | q | q | q | q | q | q | q | q | q
  · have k9 := dg_o0 h (j % 10) hi
    rw [show 0 + j % 10 = j by omega] at k9
    exact k9
  · have k9 := dg_o1 h (j % 10) hi
    rw [show 10 + j % 10 = j by omega] at k9
    exact k9
  · have k9 := dg_o2 h (j % 10) hi
    rw [show 20 + j % 10 = j by omega] at k9
    exact k9
  · have k9 := dg_o3 h (j % 10) hi
    rw [show 30 + j % 10 = j by omega] at k9
    exact k9
  · have k9 := dg_o4 h (j % 10) hi
    rw [show 40 + j % 10 = j by omega] at k9
    exact k9
  · have k9 := dg_o5 h (j % 10) hi
    rw [show 50 + j % 10 = j by omega] at k9
    exact k9
  · have k9 := dg_o6 h (j % 10) hi
    rw [show 60 + j % 10 = j by omega] at k9
    exact k9
  · have k9 := dg_o7 h (j % 10) hi
    rw [show 70 + j % 10 = j by omega] at k9
    exact k9
  · have k9 := dg_o8 h (j % 10) hi
    rw [show 80 + j % 10 = j by omega] at k9
    exact k9
  · have k9 := dg_o9 h (j % 10) hi
    rw [show 90 + j % 10 = j by omega] at k9
    exact k9
theorem dg_ol {A : Array Value} {s : State} (h : narrow_1.before A s = true) : (Cond.eq (.length tmO) (.int (Int32.ofNat 100))).before A s = true := (br (br (br (br (bl (br (bl (bl (bl (bl h))))))))))
theorem dg_oa {A : Array Value} {s : State} (h : narrow_1.before A s = true) : (Cond.arrayOf tmO .byte).before A s = true := (bl (br (br (br (bl (br (bl (bl (bl (bl h))))))))))
theorem cs_e {A : Array Value} {s : State} (h : narrow_1.before A s = true) : (Cond.eq (.static "java/lang/String" "COMPACT_STRINGS" "Z") (.int 1)).before A s = true := (bl (bl (bl (br (bl (br (bl (bl (bl (bl h))))))))))
theorem th_u {A : Array Value} {s : State} (h : narrow_1.before A s = true) : (Cond.isRef (.static "java/lang/Throwable" "UNASSIGNED_STACK" "[Ljava/lang/StackTraceElement;")).before A s = true := (bl (br (br (bl (bl (br (bl (bl (bl (bl h))))))))))
theorem th_s {A : Array Value} {s : State} (h : narrow_1.before A s = true) : (Cond.isRef (.static "java/lang/Throwable" "SUPPRESSED_SENTINEL" "Ljava/util/List;")).before A s = true := (br (br (br (bl (bl (br (bl (bl (bl (bl h))))))))))
theorem xp_e {A : Array Value} {s : State} (h : narrow_1.before A s = true) : ∀ q ∈ XP, (Cond.not (.castable q.1 q.2)).before A s = true := by
  intro q hq
  unfold XP at hq
  simp only [List.mem_cons, List.not_mem_nil, or_false] at hq
  rcases hq with rfl | rfl | rfl | rfl | rfl | rfl
  · exact (bl (bl (br (br (bl (bl (bl (bl (br (bl h))))))))))
  · exact (bl (br (br (bl (br (bl (bl (bl (br (bl h))))))))))
  · exact (bl (br (bl (bl (bl (bl (bl (bl (br (bl h))))))))))
  · exact (br (br (br (bl (br (bl (bl (bl (br (bl h))))))))))
  · exact (br (br (bl (bl (bl (bl (bl (bl (br (bl h))))))))))
  · exact (br (bl (br (br (bl (bl (bl (bl (br (bl h))))))))))
theorem sx_0 {A : Array Value} {s : State} (h : narrow_1.before A s = true) : (Cond.exactly (.string "Overwalks" 304) "java/lang/String").before A s = true := (br (br (bl (bl (bl (bl (br (bl (br (bl h))))))))))
theorem sx_1 {A : Array Value} {s : State} (h : narrow_1.before A s = true) : (Cond.exactly (.string "Overwalks" 350) "java/lang/String").before A s = true := (br (bl (bl (br (br (bl (br (bl (br (bl h))))))))))
theorem sx_2 {A : Array Value} {s : State} (h : narrow_1.before A s = true) : (Cond.exactly (.string "Overwalks" 281) "java/lang/String").before A s = true := (bl (br (bl (br (bl (br (br (bl (br (bl h))))))))))
theorem sx_3 {A : Array Value} {s : State} (h : narrow_1.before A s = true) : (Cond.exactly (.string "Overwalks" 337) "java/lang/String").before A s = true := (bl (br (bl (bl (bl (bl (bl (br (br (bl h))))))))))
theorem sx_4 {A : Array Value} {s : State} (h : narrow_1.before A s = true) : (Cond.exactly (.string "Overwalks" 361) "java/lang/String").before A s = true := (bl (br (br (bl (br (bl (bl (br (br (bl h))))))))))
theorem sx_5 {A : Array Value} {s : State} (h : narrow_1.before A s = true) : (Cond.exactly (.string "Overwalks" 367) "java/lang/String").before A s = true := (bl (br (bl (br (bl (br (bl (br (br (bl h))))))))))
theorem sx_6 {A : Array Value} {s : State} (h : narrow_1.before A s = true) : (Cond.exactly (.string "Overwalks" 363) "java/lang/String").before A s = true := (br (br (br (br (bl (bl (br (br (br (bl h))))))))))
theorem sx_7 {A : Array Value} {s : State} (h : narrow_1.before A s = true) : (Cond.exactly (.string "Overwalks" 359) "java/lang/String").before A s = true := (bl (br (br (bl (bl (br (br (br (br (bl h))))))))))
theorem sx_8 {A : Array Value} {s : State} (h : narrow_1.before A s = true) : (Cond.exactly (.string "Overwalks" 346) "java/lang/String").before A s = true := (bl (bl (br (br (br (br (br (br (br (bl h))))))))))
theorem sx_9 {A : Array Value} {s : State} (h : narrow_1.before A s = true) : (Cond.exactly (.string "Overwalks" 357) "java/lang/String").before A s = true := (br (bl (bl (br (br (bl (bl (bl (bl (br h))))))))))
theorem sx_10 {A : Array Value} {s : State} (h : narrow_1.before A s = true) : (Cond.exactly (.string "Overwalks" 152) "java/lang/String").before A s = true := (br (br (bl (bl (br (br (bl (bl (bl (br h))))))))))
theorem sx_11 {A : Array Value} {s : State} (h : narrow_1.before A s = true) : (Cond.exactly (.string "Overwalks" 365) "java/lang/String").before A s = true := (bl (bl (br (bl (br (bl (br (bl (bl (br h))))))))))
theorem sx_12 {A : Array Value} {s : State} (h : narrow_1.before A s = true) : (Cond.exactly (.string "Overwalks" 175) "java/lang/String").before A s = true := (bl (br (br (bl (br (br (br (bl (bl (br h))))))))))
theorem sx_13 {A : Array Value} {s : State} (h : narrow_1.before A s = true) : (Cond.exactly (.string "Overwalks" 177) "java/lang/String").before A s = true := (br (br (br (bl (br (bl (bl (br (bl (br h))))))))))
theorem sx_14 {A : Array Value} {s : State} (h : narrow_1.before A s = true) : (Cond.exactly (.string "Overwalks" 354) "java/lang/String").before A s = true := (bl (bl (br (bl (bl (bl (br (br (bl (br h))))))))))
theorem sx_15 {A : Array Value} {s : State} (h : narrow_1.before A s = true) : (Cond.exactly (.string "Overwalks" 217) "java/lang/String").before A s = true := (bl (bl (br (br (bl (br (br (br (bl (br h))))))))))
theorem sx_16 {A : Array Value} {s : State} (h : narrow_1.before A s = true) : (Cond.exactly (.string "java/util/Arrays" 337) "java/lang/String").before A s = true := (bl (bl (bl (bl (bl (bl (bl (bl (br (br h))))))))))
theorem sx_17 {A : Array Value} {s : State} (h : narrow_1.before A s = true) : (Cond.exactly (.string "Overwalks" 348) "java/lang/String").before A s = true := (br (br (br (bl (br (bl (bl (bl (br (br h))))))))))
theorem sx_18 {A : Array Value} {s : State} (h : narrow_1.before A s = true) : (Cond.exactly (.string "Overwalks" 240) "java/lang/String").before A s = true := (bl (bl (bl (br (br (br (bl (bl (br (br h))))))))))
theorem sx_19 {A : Array Value} {s : State} (h : narrow_1.before A s = true) : (Cond.exactly (.string "OverwalksModel" 154) "java/lang/String").before A s = true := (br (bl (br (bl (bl (br (br (bl (br (br h))))))))))
theorem sx_20 {A : Array Value} {s : State} (h : narrow_1.before A s = true) : (Cond.exactly (.string "OverwalksModel" 57) "java/lang/String").before A s = true := (bl (bl (br (br (br (br (br (bl (br (br h))))))))))
theorem sx_21 {A : Array Value} {s : State} (h : narrow_1.before A s = true) : (Cond.exactly (.string "OverwalksModel" 167) "java/lang/String").before A s = true := (br (bl (br (bl (br (bl (bl (br (br (br h))))))))))
theorem sx_22 {A : Array Value} {s : State} (h : narrow_1.before A s = true) : (Cond.exactly (.string "OverwalksModel" 149) "java/lang/String").before A s = true := (br (br (br (br (bl (br (bl (br (br (br h))))))))))
theorem sx_23 {A : Array Value} {s : State} (h : narrow_1.before A s = true) : (Cond.exactly (.string "OverwalksModel" 197) "java/lang/String").before A s = true := (bl (br (bl (br (bl (bl (br (br (br (br h))))))))))
def ALS : List (String × Nat × String × Nat) → Prop
  | [] => True
  | (a, b, c, _) :: l => Cond.stringRef a b c ∈ tables_1 ∧ ALS l
theorem ALS.use : ∀ {l : List (String × Nat × String × Nat)}, ALS l → ∀ q ∈ l, Cond.stringRef q.1 q.2.1 q.2.2.1 ∈ tables_1
  | [], _, w, hw => by cases hw
  | (a, b, c, d) :: l, h, w, hw => by
    rcases List.mem_cons.mp hw with rfl | hw
    · exact h.1
    · exact ALS.use h.2 w hw
theorem sr_r : ∀ q ∈ SR0, Cond.stringRef q.1 q.2.1 q.2.2.1 ∈ tables_1 := ALS.use (l := SR0) ⟨amm_1_48.1, amm_1_90.2.2.1, amm_1_96.2.2.2.1, amm_1_126.2.2.1, amm_1_132.1, amm_1_144.2.1, amm_1_186.2.2.2.1, amm_1_228.2.2.2.2.2.1, amm_2_24.2.2.2.1, amm_2_30.2.1, amm_2_60.2.2.2.2.2.1, amm_2_102.2.2.2.1, amm_2_108.2.2.2.2.2.1, amm_2_114.1, amm_2_120.2.2.2.2.2.1, amm_2_156.2.2.2.1, amm_3_126.2.2.2.1, amm_3_204.2.1, amm_4.2.1, amm_5_102.2.1, amm_5_108.1, amm_5_114.2.2.2.2.2.1, amm_5_120.2.2.2.1, amm_5_156.2.2.2.2.2.1, trivial⟩
theorem tx_48c {A : Array Value} {s : State} (h : narrow_1.before A s = true) : (Cond.eq (.field (.string "OverwalksModel" 154) "java/lang/String" "coder" "B") (.int 0)).before A s = true := (bl (br (br (bl (bl (br (br (bl (br (br h))))))))))
theorem tx_48a {A : Array Value} {s : State} (h : narrow_1.before A s = true) : (Cond.arrayOf (.field (.string "OverwalksModel" 154) "java/lang/String" "value" "[B") .byte).before A s = true := (br (br (br (bl (bl (br (br (bl (br (br h))))))))))
theorem tx_48l {A : Array Value} {s : State} (h : narrow_1.before A s = true) : (Cond.eq (.length (.field (.string "OverwalksModel" 154) "java/lang/String" "value" "[B")) (.int (Int32.ofNat 0))).before A s = true := (bl (bl (bl (br (bl (br (br (bl (br (br h))))))))))
theorem tx_48e {A : Array Value} {s : State} (h : narrow_1.before A s = true) : ∀ j, j < 0 → (Cond.eq (.elem (.field (.string "OverwalksModel" 154) "java/lang/String" "value" "[B") (.int (Int32.ofNat j))) (.int 0)).before A s = true := by
  intro j hj
  exact absurd hj (Nat.not_lt_zero _)
theorem tx_50c {A : Array Value} {s : State} (h : narrow_1.before A s = true) : (Cond.eq (.field (.string "OverwalksModel" 167) "java/lang/String" "coder" "B") (.int 0)).before A s = true := (bl (br (br (bl (br (bl (bl (br (br (br h))))))))))
theorem tx_50a {A : Array Value} {s : State} (h : narrow_1.before A s = true) : (Cond.arrayOf (.field (.string "OverwalksModel" 167) "java/lang/String" "value" "[B") .byte).before A s = true := (br (br (br (bl (br (bl (bl (br (br (br h))))))))))
theorem tx_50l {A : Array Value} {s : State} (h : narrow_1.before A s = true) : (Cond.eq (.length (.field (.string "OverwalksModel" 167) "java/lang/String" "value" "[B")) (.int (Int32.ofNat 1))).before A s = true := (bl (bl (bl (br (br (bl (bl (br (br (br h))))))))))
theorem tx_50e {A : Array Value} {s : State} (h : narrow_1.before A s = true) : ∀ j, j < 1 → (Cond.eq (.elem (.field (.string "OverwalksModel" 167) "java/lang/String" "value" "[B") (.int (Int32.ofNat j))) (.int 32)).before A s = true := by
  intro j hj
  rcases (show j = 0 by omega) with rfl
  exact (br (bl (bl (br (br (bl (bl (br (br (br h))))))))))
theorem tx_52c {A : Array Value} {s : State} (h : narrow_1.before A s = true) : (Cond.eq (.field (.string "OverwalksModel" 149) "java/lang/String" "coder" "B") (.int 0)).before A s = true := (bl (bl (bl (bl (br (br (bl (br (br (br h))))))))))
theorem tx_52a {A : Array Value} {s : State} (h : narrow_1.before A s = true) : (Cond.arrayOf (.field (.string "OverwalksModel" 149) "java/lang/String" "value" "[B") .byte).before A s = true := (br (bl (bl (bl (br (br (bl (br (br (br h))))))))))
theorem tx_52l {A : Array Value} {s : State} (h : narrow_1.before A s = true) : (Cond.eq (.length (.field (.string "OverwalksModel" 149) "java/lang/String" "value" "[B")) (.int (Int32.ofNat 1))).before A s = true := (bl (br (bl (bl (br (br (bl (br (br (br h))))))))))
theorem tx_52e {A : Array Value} {s : State} (h : narrow_1.before A s = true) : ∀ j, j < 1 → (Cond.eq (.elem (.field (.string "OverwalksModel" 149) "java/lang/String" "value" "[B") (.int (Int32.ofNat j))) (.int 45)).before A s = true := by
  intro j hj
  rcases (show j = 0 by omega) with rfl
  exact (br (br (bl (bl (br (br (bl (br (br (br h))))))))))
theorem tx_54c {A : Array Value} {s : State} (h : narrow_1.before A s = true) : (Cond.eq (.field (.string "OverwalksModel" 197) "java/lang/String" "coder" "B") (.int 0)).before A s = true := (br (br (bl (br (bl (bl (br (br (br (br h))))))))))
theorem tx_54a {A : Array Value} {s : State} (h : narrow_1.before A s = true) : (Cond.arrayOf (.field (.string "OverwalksModel" 197) "java/lang/String" "value" "[B") .byte).before A s = true := (bl (bl (br (br (bl (bl (br (br (br (br h))))))))))
theorem tx_54l {A : Array Value} {s : State} (h : narrow_1.before A s = true) : (Cond.eq (.length (.field (.string "OverwalksModel" 197) "java/lang/String" "value" "[B")) (.int (Int32.ofNat 1))).before A s = true := (br (bl (br (br (bl (bl (br (br (br (br h))))))))))
theorem tx_54e {A : Array Value} {s : State} (h : narrow_1.before A s = true) : ∀ j, j < 1 → (Cond.eq (.elem (.field (.string "OverwalksModel" 197) "java/lang/String" "value" "[B") (.int (Int32.ofNat j))) (.int 47)).before A s = true := by
  intro j hj
  rcases (show j = 0 by omega) with rfl
  exact (bl (br (br (br (bl (bl (br (br (br (br h))))))))))
theorem tx_40c {A : Array Value} {s : State} (h : narrow_1.before A s = true) : (Cond.eq (.field (.string "OverwalksModel" 57) "java/lang/String" "coder" "B") (.int 0)).before A s = true := (br (bl (br (br (br (br (br (bl (br (br h))))))))))
theorem tx_40a {A : Array Value} {s : State} (h : narrow_1.before A s = true) : (Cond.arrayOf (.field (.string "OverwalksModel" 57) "java/lang/String" "value" "[B") .byte).before A s = true := (bl (br (br (br (br (br (br (bl (br (br h))))))))))
theorem tx_40l {A : Array Value} {s : State} (h : narrow_1.before A s = true) : (Cond.eq (.length (.field (.string "OverwalksModel" 57) "java/lang/String" "value" "[B")) (.int (Int32.ofNat 1))).before A s = true := (br (br (br (br (br (br (br (bl (br (br h))))))))))
theorem tx_40e {A : Array Value} {s : State} (h : narrow_1.before A s = true) : ∀ j, j < 1 → (Cond.eq (.elem (.field (.string "OverwalksModel" 57) "java/lang/String" "value" "[B") (.int (Int32.ofNat j))) (.int 33)).before A s = true := by
  intro j hj
  rcases (show j = 0 by omega) with rfl
  exact (bl (bl (bl (bl (bl (bl (bl (br (br (br h))))))))))
theorem two_e {A : Array Value} {s : State} (h : narrow_1.before A s = true) : (Cond.eq (.string "Overwalks" 217) (.string "OverwalksModel" 57)).before A s = true := (bl (bl (bl (bl (br (bl (bl (br (br (br h))))))))))
theorem ls_e : (Cond.laysStatic "java/lang/Integer" "DigitTens" "[B" ∈ tables_1 ∧ Cond.laysStatic "java/lang/Integer" "DigitOnes" "[B" ∈ tables_1 ∧ Cond.laysStatic "java/lang/String" "COMPACT_STRINGS" "Z" ∈ tables_1) ∧ Cond.laysStatic "java/lang/Throwable" "UNASSIGNED_STACK" "[Ljava/lang/StackTraceElement;" ∈ tables_1 ∧ Cond.laysStatic "java/lang/Throwable" "SUPPRESSED_SENTINEL" "Ljava/util/List;" ∈ tables_1 := by decide +kernel
theorem in_e : ∀ C ∈ ["Overwalks$Kind", "java/lang/Integer", "java/lang/String", "java/lang/Throwable"], Cond.initialized C ∈ tables_1 := by decide +kernel
theorem ar_e : (Cond.arrayClass .int ∈ tables_1 ∧ Cond.arrayClass .boolean ∈ tables_1 ∧ Cond.arrayClass .byte ∈ tables_1) ∧ Cond.arrayOver (.object "Overwalks$Shelf") ∈ tables_1 ∧ Cond.arrayOver (.object "Overwalks$Walk") ∈ tables_1 ∧ Cond.arrayOver (.array .int) ∈ tables_1 := by decide +kernel
def nFs : List Nat := [4, 4, 5, 9, 7, 2, 14]
theorem ni_e : ∀ c, c < 7 → Cond.instantiable (CN c) (nFs.getD c 0) ∈ tables_1 := by decide +kernel
end
section
/-! 60.start -/
/-! the law's first frame -/
/-- the constants -/
def K0 (L : Nat) (xs : Nat → Int32) : AH := fun i => if i = 0 then .inl (0, L, .inl xs) else if 1 ≤ i ∧ i ≤ 5 then .inr (7, [.int (bI (kP i)), .int (bI (kN i)), .int (bI (kE i))]) else if i = 6 then .inl (2, 100, .inl (fun j => Int32.ofNat (48 + j / 10))) else if i = 7 then .inl (2, 100, .inl (fun j => Int32.ofNat (48 + j % 10))) else if i = 40 then .inr (0, [.ref 41, .int 0]) else if i = 41 then .inl (2, 1, .inl (fun _ => 33)) else if i = 48 then .inr (0, [.ref 49, .int 0]) else if i = 49 then .inl (2, 0, .inl (fun _ => 0)) else if i = 50 then .inr (0, [.ref 51, .int 0]) else if i = 51 then .inl (2, 1, .inl (fun _ => 32)) else if i = 52 then .inr (0, [.ref 53, .int 0]) else if i = 53 then .inl (2, 1, .inl (fun _ => 45)) else if i = 54 then .inr (0, [.ref 55, .int 0]) else if i = 55 then .inl (2, 1, .inl (fun _ => 47)) else .inl (5, 0, .inl (fun _ => 0))
theorem K0_inr {L : Nat} {xs : Nat → Int32} {i ci : Nat} {fs : List Value} (h : K0 L xs i = .inr (ci, fs)) : ((1 ≤ i ∧ i ≤ 5) ∧ ci = 7 ∧ fs = [.int (bI (kP i)), .int (bI (kN i)), .int (bI (kE i))]) ∨ ((i = 40) ∧ ci = 0 ∧ fs = [.ref 41, .int 0]) ∨ ((i = 48) ∧ ci = 0 ∧ fs = [.ref 49, .int 0]) ∨ ((i = 50) ∧ ci = 0 ∧ fs = [.ref 51, .int 0]) ∨ ((i = 52) ∧ ci = 0 ∧ fs = [.ref 53, .int 0]) ∨ ((i = 54) ∧ ci = 0 ∧ fs = [.ref 55, .int 0]) := by
  unfold K0 at h
  by_cases d0 : i = 0
  · rw [if_pos d0] at h
    cases h
  rw [if_neg d0] at h
  by_cases d1 : 1 ≤ i ∧ i ≤ 5
  · rw [if_pos d1] at h
    cases h
    exact Or.inl ⟨d1, rfl, rfl⟩
  rw [if_neg d1] at h
  by_cases d2 : i = 6
  · rw [if_pos d2] at h
    cases h
  rw [if_neg d2] at h
  by_cases d3 : i = 7
  · rw [if_pos d3] at h
    cases h
  rw [if_neg d3] at h
  by_cases d4 : i = 40
  · rw [if_pos d4] at h
    cases h
    exact Or.inr (Or.inl ⟨d4, rfl, rfl⟩)
  rw [if_neg d4] at h
  by_cases d5 : i = 41
  · rw [if_pos d5] at h
    cases h
  rw [if_neg d5] at h
  by_cases d6 : i = 48
  · rw [if_pos d6] at h
    cases h
    exact Or.inr (Or.inr (Or.inl ⟨d6, rfl, rfl⟩))
  rw [if_neg d6] at h
  by_cases d7 : i = 49
  · rw [if_pos d7] at h
    cases h
  rw [if_neg d7] at h
  by_cases d8 : i = 50
  · rw [if_pos d8] at h
    cases h
    exact Or.inr (Or.inr (Or.inr (Or.inl ⟨d8, rfl, rfl⟩)))
  rw [if_neg d8] at h
  by_cases d9 : i = 51
  · rw [if_pos d9] at h
    cases h
  rw [if_neg d9] at h
  by_cases d10 : i = 52
  · rw [if_pos d10] at h
    cases h
    exact Or.inr (Or.inr (Or.inr (Or.inr (Or.inl ⟨d10, rfl, rfl⟩))))
  rw [if_neg d10] at h
  by_cases d11 : i = 53
  · rw [if_pos d11] at h
    cases h
  rw [if_neg d11] at h
  by_cases d12 : i = 54
  · rw [if_pos d12] at h
    cases h
    exact Or.inr (Or.inr (Or.inr (Or.inr (Or.inr (⟨d12, rfl, rfl⟩)))))
  rw [if_neg d12] at h
  by_cases d13 : i = 55
  · rw [if_pos d13] at h
    cases h
  rw [if_neg d13] at h
  cases h
theorem K0_inl {L : Nat} {xs : Nat → Int32} {i t n : Nat} {f : Nat → Int32} (h : K0 L xs i = .inl (t, n, .inl f)) (ht : t < 3) : ((i = 0) ∧ t = 0 ∧ n = L ∧ f = xs) ∨ ((i = 6) ∧ t = 2 ∧ n = 100 ∧ f = (fun j => Int32.ofNat (48 + j / 10))) ∨ ((i = 7) ∧ t = 2 ∧ n = 100 ∧ f = (fun j => Int32.ofNat (48 + j % 10))) ∨ ((i = 41) ∧ t = 2 ∧ n = 1 ∧ f = (fun _ => 33)) ∨ ((i = 49) ∧ t = 2 ∧ n = 0 ∧ f = (fun _ => 0)) ∨ ((i = 51) ∧ t = 2 ∧ n = 1 ∧ f = (fun _ => 32)) ∨ ((i = 53) ∧ t = 2 ∧ n = 1 ∧ f = (fun _ => 45)) ∨ ((i = 55) ∧ t = 2 ∧ n = 1 ∧ f = (fun _ => 47)) := by
  unfold K0 at h
  by_cases d0 : i = 0
  · rw [if_pos d0] at h
    cases h
    exact Or.inl ⟨d0, rfl, rfl, rfl⟩
  rw [if_neg d0] at h
  by_cases d1 : 1 ≤ i ∧ i ≤ 5
  · rw [if_pos d1] at h
    cases h
  rw [if_neg d1] at h
  by_cases d2 : i = 6
  · rw [if_pos d2] at h
    cases h
    exact Or.inr (Or.inl ⟨d2, rfl, rfl, rfl⟩)
  rw [if_neg d2] at h
  by_cases d3 : i = 7
  · rw [if_pos d3] at h
    cases h
    exact Or.inr (Or.inr (Or.inl ⟨d3, rfl, rfl, rfl⟩))
  rw [if_neg d3] at h
  by_cases d4 : i = 40
  · rw [if_pos d4] at h
    cases h
  rw [if_neg d4] at h
  by_cases d5 : i = 41
  · rw [if_pos d5] at h
    cases h
    exact Or.inr (Or.inr (Or.inr (Or.inl ⟨d5, rfl, rfl, rfl⟩)))
  rw [if_neg d5] at h
  by_cases d6 : i = 48
  · rw [if_pos d6] at h
    cases h
  rw [if_neg d6] at h
  by_cases d7 : i = 49
  · rw [if_pos d7] at h
    cases h
    exact Or.inr (Or.inr (Or.inr (Or.inr (Or.inl ⟨d7, rfl, rfl, rfl⟩))))
  rw [if_neg d7] at h
  by_cases d8 : i = 50
  · rw [if_pos d8] at h
    cases h
  rw [if_neg d8] at h
  by_cases d9 : i = 51
  · rw [if_pos d9] at h
    cases h
    exact Or.inr (Or.inr (Or.inr (Or.inr (Or.inr (Or.inl ⟨d9, rfl, rfl, rfl⟩)))))
  rw [if_neg d9] at h
  by_cases d10 : i = 52
  · rw [if_pos d10] at h
    cases h
  rw [if_neg d10] at h
  by_cases d11 : i = 53
  · rw [if_pos d11] at h
    cases h
    exact Or.inr (Or.inr (Or.inr (Or.inr (Or.inr (Or.inr (Or.inl ⟨d11, rfl, rfl, rfl⟩))))))
  rw [if_neg d11] at h
  by_cases d12 : i = 54
  · rw [if_pos d12] at h
    cases h
  rw [if_neg d12] at h
  by_cases d13 : i = 55
  · rw [if_pos d13] at h
    cases h
    exact Or.inr (Or.inr (Or.inr (Or.inr (Or.inr (Or.inr (Or.inr (⟨d13, rfl, rfl, rfl⟩)))))))
  rw [if_neg d13] at h
  cases h; exact absurd ht (by decide +kernel)
theorem K0_cl {L : Nat} {xs : Nat → Int32} {i : Nat} : clE nC (K0 L xs i) := by
  unfold K0
  by_cases d0 : i = 0
  · rw [if_pos d0]
    trivial
  rw [if_neg d0]
  by_cases d1 : 1 ≤ i ∧ i ≤ 5
  · rw [if_pos d1]
    intro v hv j e
    simp only [List.mem_cons, List.not_mem_nil, or_false] at hv
    rcases hv with rfl | rfl | rfl <;> cases e
  rw [if_neg d1]
  by_cases d2 : i = 6
  · rw [if_pos d2]
    trivial
  rw [if_neg d2]
  by_cases d3 : i = 7
  · rw [if_pos d3]
    trivial
  rw [if_neg d3]
  by_cases d4 : i = 40
  · rw [if_pos d4]
    intro v hv j e
    simp only [List.mem_cons, List.not_mem_nil, or_false] at hv
    rcases hv with rfl | rfl <;> cases e
    exact (by decide +kernel)
  rw [if_neg d4]
  by_cases d5 : i = 41
  · rw [if_pos d5]
    trivial
  rw [if_neg d5]
  by_cases d6 : i = 48
  · rw [if_pos d6]
    intro v hv j e
    simp only [List.mem_cons, List.not_mem_nil, or_false] at hv
    rcases hv with rfl | rfl <;> cases e
    exact (by decide +kernel)
  rw [if_neg d6]
  by_cases d7 : i = 49
  · rw [if_pos d7]
    trivial
  rw [if_neg d7]
  by_cases d8 : i = 50
  · rw [if_pos d8]
    intro v hv j e
    simp only [List.mem_cons, List.not_mem_nil, or_false] at hv
    rcases hv with rfl | rfl <;> cases e
    exact (by decide +kernel)
  rw [if_neg d8]
  by_cases d9 : i = 51
  · rw [if_pos d9]
    trivial
  rw [if_neg d9]
  by_cases d10 : i = 52
  · rw [if_pos d10]
    intro v hv j e
    simp only [List.mem_cons, List.not_mem_nil, or_false] at hv
    rcases hv with rfl | rfl <;> cases e
    exact (by decide +kernel)
  rw [if_neg d10]
  by_cases d11 : i = 53
  · rw [if_pos d11]
    trivial
  rw [if_neg d11]
  by_cases d12 : i = 54
  · rw [if_pos d12]
    intro v hv j e
    simp only [List.mem_cons, List.not_mem_nil, or_false] at hv
    rcases hv with rfl | rfl <;> cases e
    exact (by decide +kernel)
  rw [if_neg d12]
  by_cases d13 : i = 55
  · rw [if_pos d13]
    trivial
  rw [if_neg d13]
  trivial
theorem K0_kd {L : Nat} {xs : Nat → Int32} {k : Nat} (h1 : 1 ≤ k) (h2 : k ≤ 5) : KdF (K0 L xs) k := ⟨⟨h1, h2⟩, (if_neg (by omega)).trans (if_pos ⟨h1, h2⟩)⟩
theorem K0_tx {L : Nat} {xs : Nat → Int32} : TXT (K0 L xs) := ⟨⟨_, rfl, fun _ _ => rfl⟩, ⟨_, rfl, fun _ _ => rfl⟩, ⟨49, _, [], rfl, rfl, fun _ => rfl, by decide +kernel, by decide +kernel, rfl⟩, ⟨51, _, [], rfl, rfl, fun _ => rfl, by decide +kernel, by decide +kernel, rfl⟩, ⟨53, _, [], rfl, rfl, fun _ => rfl, by decide +kernel, by decide +kernel, rfl⟩, ⟨55, _, [], rfl, rfl, fun _ => rfl, by decide +kernel, by decide +kernel, rfl⟩, ⟨41, _, [], rfl, rfl, fun _ => rfl, by decide +kernel, by decide +kernel, rfl⟩⟩
theorem st_of {A : Array Value} {s : State} {F : Nat → Prop} {t : Term} {N : Nat} {b : Int32} (hN : N < 2 ^ 31) (h1 : (Cond.exactly t "java/lang/String").before A s = true) (h2 : (Cond.eq (.field t "java/lang/String" "coder" "B") (.int 0)).before A s = true) (h3 : (Cond.arrayOf (.field t "java/lang/String" "value" "[B") .byte).before A s = true) (h4 : (Cond.eq (.length (.field t "java/lang/String" "value" "[B")) (.int (Int32.ofNat N))).before A s = true) (h5 : ∀ j, j < N → (Cond.eq (.elem (.field t "java/lang/String" "value" "[B") (.int (Int32.ofNat j))) (.int b)).before A s = true) (hF : ∀ a : Nat, a < s.heap.size → ¬ F a) :
    ∃ a v : Nat, t.eval A s none [] s = some (.ref a) ∧ va_O "java/lang/String" a F s s.heap ∧ va_OF "java/lang/String" "coder" "B" (.int 0) a F s s.heap ∧ va_OF "java/lang/String" "value" "[B" (.ref v) a F s s.heap ∧ va_T .byte v N (fun _ => .int b) F s s.heap := by
  obtain ⟨a, c, cA, kA, q1, q2, q3, q4, q5, q6, -⟩ := Cond.exactly_spec (args := A) (first := s) (o := none) (s := s) (idx := []) (t := t) (cls := "java/lang/String") h1
  obtain ⟨v, hv, hT⟩ := va_Tof (f := fun _ => .int b) (A := F) hN h3 (va_eqt h4) (fun j hj => va_eqt (h5 j hj)) hF
  exact ⟨a, v, q1, ⟨cA, q3, q5, by rw [q6]; exact q2, hF a (Array.getElem?_eq_some_iff.mp q3).1⟩, vk_OFof q1 (va_eqt h2) hF, vk_OFof q1 hv hF, hT⟩
theorem ev_of {A : Array Value} {s : State} {t : Term} (h : (Cond.exactly t "java/lang/String").before A s = true) : ∃ a : Nat, t.eval A s none [] s = some (.ref a) := by
  obtain ⟨a, c, cA, kA, q1, -⟩ := Cond.exactly_spec (args := A) (first := s) (o := none) (s := s) (idx := []) (t := t) (cls := "java/lang/String") h
  exact ⟨a, q1⟩
theorem eq_of {A : Array Value} {s : State} {t u : Term} {a b : Nat} (h : (Cond.eq t u).before A s = true) (ht : t.eval A s none [] s = some (.ref a)) (hu : u.eval A s none [] s = some (.ref b)) : a = b := by
  simp [Cond.before, Cond.holds, Cond.value, ht, hu] at h
  exact h
theorem ac_of {A : Array Value} {s : State} {ty : FieldType} (h : (Cond.arrayClass ty).before A s = true) : ∃ c, ArrOfT s c ty ∧ s.vm.findClass ("[" ++ ty.toString) = some c := by
  obtain ⟨c, k, comp, f1, f2, f3⟩ := Cond.arrayClass_spec (args := A) (first := s) (o := none) (s := s) (idx := []) h
  exact ⟨c, fun N z => ⟨fun k h => (by cases h), k, f2, comp, f3⟩, f1⟩
theorem ao_of {A : Array Value} {s : State} {C : String} (h : (Cond.arrayOver (.object C)).before A s = true) : ∃ c, ArrOfT s c (.object C) ∧ va_RA s c (.object C) := by
  obtain ⟨comp, c, k, f1, -, f2, f3, f4⟩ := Cond.arrayOver_spec (args := A) (first := s) (o := none) (s := s) (idx := []) h
  exact ⟨c, fun N z => ⟨fun k h => (by cases h), k, f2, comp, f3⟩, k, comp, f2, f3, f1, f4⟩
theorem aa_of {A : Array Value} {s : State} (h : (Cond.arrayOver (.array .int)).before A s = true) : ∃ c, ArrOfT s c (.array .int) ∧ va_RA s c (.array .int) := by
  obtain ⟨comp, c, k, f1, f2, f3, f4⟩ := Cond.arrayOver_specA (args := A) (first := s) (o := none) (s := s) (idx := []) h
  exact ⟨c, fun N z => ⟨fun k h => (by cases h), k, f2, comp, f3⟩, f4⟩
theorem first_frame {p : Program} {l : Launch} {s : State} {m : MethodId} {meth : Method} {c : Code} {b L : Nat} {xs : Nat → Int32} (hst : l.stackTraces = false) (hx : p.tables.exec = Jvm.exec) (hb : c.code = code) (hr : meth.sig.returnType = ret) (hml : c.maxLocals = 7) (hown : s.vm.findClass "OverwalksLaw" = some m.cls) (hts : ∀ w ∈ lw_tbl, w.before #[Value.ref b] s = true) (hX : va_X b L xs s s.heap) (hL : L ≤ 3072) (hlk : meth.locks = false) (hn : narrow_1.before #[Value.ref b] s = true) (htb : c.exceptionTable.toList = []) :
    ∃ (G : GD), CX SR0 G ML_law p l s m #[Value.ref b] meth c (fun q => s.heap.size ≤ q) ∧ G.2.2.1 0 = b ∧ G.2.2.2 = K0 L xs := by
  have hA : ∀ a : Nat, a < s.heap.size → ¬ (fun q => s.heap.size ≤ q) a := fun a h g => absurd (Nat.lt_of_lt_of_le h g) (Nat.lt_irrefl _)
  have htt : ∀ w ∈ tables_1, w.before #[Value.ref b] s = true := fun w hw => hts w (List.mem_append_right _ (List.mem_append_left _ hw))
  have hin : ∀ C ∈ ["Overwalks$Kind", "java/lang/Integer", "java/lang/String", "java/lang/Throwable"], (Cond.initialized C).before #[Value.ref b] s = true := fun C h => htt _ (in_e C h)
  obtain ⟨aK, hE, eK⟩ := va_Enof2 (A := fun q => s.heap.size ≤ q) (F := FK) (fun i hi => htt _ (kd_l i hi)) (hin _ (by decide +kernel)) (kd_x hn) (kd_f hn) (kd_d hn) hA
  obtain ⟨dt, et, hdt⟩ := va_Tof (f := fun j => .int (Int32.ofNat (48 + j / 10))) (A := fun q => s.heap.size ≤ q) (by decide +kernel) (dg_ta hn) (va_eqt (dg_tl hn)) (fun j hj => va_eqt (dg_t hn j hj)) hA
  obtain ⟨dn, eo, hdo⟩ := va_Tof (f := fun j => .int (Int32.ofNat (48 + j % 10))) (A := fun q => s.heap.size ≤ q) (by decide +kernel) (dg_oa hn) (va_eqt (dg_ol hn)) (fun j hj => va_eqt (dg_o hn j hj)) hA
  obtain ⟨a10, e0⟩ := ev_of (sx_0 hn)
  obtain ⟨a12, e1⟩ := ev_of (sx_1 hn)
  obtain ⟨a14, e2⟩ := ev_of (sx_2 hn)
  obtain ⟨a16, e3⟩ := ev_of (sx_3 hn)
  obtain ⟨a18, e4⟩ := ev_of (sx_4 hn)
  obtain ⟨a20, e5⟩ := ev_of (sx_5 hn)
  obtain ⟨a22, e6⟩ := ev_of (sx_6 hn)
  obtain ⟨a24, e7⟩ := ev_of (sx_7 hn)
  obtain ⟨a26, e8⟩ := ev_of (sx_8 hn)
  obtain ⟨a28, e9⟩ := ev_of (sx_9 hn)
  obtain ⟨a30, e10⟩ := ev_of (sx_10 hn)
  obtain ⟨a32, e11⟩ := ev_of (sx_11 hn)
  obtain ⟨a34, e12⟩ := ev_of (sx_12 hn)
  obtain ⟨a36, e13⟩ := ev_of (sx_13 hn)
  obtain ⟨a38, e14⟩ := ev_of (sx_14 hn)
  obtain ⟨a40, v40, e20, hO40, hc40, hv40, hT40⟩ := st_of (F := fun q => s.heap.size ≤ q) (by decide +kernel) (sx_20 hn) (tx_40c hn) (tx_40a hn) (tx_40l hn) (tx_40e hn) hA
  obtain ⟨a42, e16⟩ := ev_of (sx_16 hn)
  obtain ⟨a44, e17⟩ := ev_of (sx_17 hn)
  obtain ⟨a46, e18⟩ := ev_of (sx_18 hn)
  obtain ⟨a48, v48, e19, hO48, hc48, hv48, hT48⟩ := st_of (F := fun q => s.heap.size ≤ q) (by decide +kernel) (sx_19 hn) (tx_48c hn) (tx_48a hn) (tx_48l hn) (tx_48e hn) hA
  obtain ⟨a50, v50, e21, hO50, hc50, hv50, hT50⟩ := st_of (F := fun q => s.heap.size ≤ q) (by decide +kernel) (sx_21 hn) (tx_50c hn) (tx_50a hn) (tx_50l hn) (tx_50e hn) hA
  obtain ⟨a52, v52, e22, hO52, hc52, hv52, hT52⟩ := st_of (F := fun q => s.heap.size ≤ q) (by decide +kernel) (sx_22 hn) (tx_52c hn) (tx_52a hn) (tx_52l hn) (tx_52e hn) hA
  obtain ⟨a54, v54, e23, hO54, hc54, hv54, hT54⟩ := st_of (F := fun q => s.heap.size ≤ q) (by decide +kernel) (sx_23 hn) (tx_54c hn) (tx_54a hn) (tx_54l hn) (tx_54e hn) hA
  obtain ⟨z15, e15⟩ := ev_of (sx_15 hn)
  have y15 := (eq_of (two_e hn) e15 e20).symm
  subst y15
  obtain ⟨c0, p0, q0⟩ := ac_of (htt _ ar_e.1.1)
  obtain ⟨c1, p1, q1⟩ := ac_of (htt _ ar_e.1.2.1)
  obtain ⟨c2, p2, q2⟩ := ac_of (htt _ ar_e.1.2.2)
  obtain ⟨c3, p3, q3⟩ := ao_of (htt _ ar_e.2.1)
  obtain ⟨c4, p4, q4⟩ := ao_of (htt _ ar_e.2.2.1)
  obtain ⟨c5, p5, q5⟩ := aa_of (htt _ ar_e.2.2.2)
  have hk : ∀ c : Nat, ∃ q : ClassId × (Nat → Nat), c < 7 → u_Kn s (CN c) (FT c) (FN c) q.1 q.2 := by
    intro c
    by_cases hc : c < 7
    · obtain ⟨cC, iS, h⟩ := u_known (ws := lw_tbl) (T := FT c) (N := FN c) hts (fun w hw => (List.mem_filter.mp (cls_ws hc w hw)).1) (htt _ (ni_e c hc))
      exact ⟨(cC, iS), fun _ => h⟩
    · exact ⟨(c0, fun _ => 0), fun h => absurd h hc⟩
  obtain ⟨qK, hqK⟩ := Classical.axiomOfChoice hk
  refine ⟨((fun c => (qK c).1, fun c => (qK c).2), (fun k => if k = 0 then c0 else if k = 1 then c1 else if k = 2 then c2 else if k = 3 then c3 else if k = 4 then c4 else c5), (fun k => if k = 0 then b else if k < 6 then aK (k - 1) else if k = 6 then dt else if k = 7 then dn else if k = 10 then a10 else if k = 12 then a12 else if k = 14 then a14 else if k = 16 then a16 else if k = 18 then a18 else if k = 20 then a20 else if k = 22 then a22 else if k = 24 then a24 else if k = 26 then a26 else if k = 28 then a28 else if k = 30 then a30 else if k = 32 then a32 else if k = 34 then a34 else if k = 36 then a36 else if k = 38 then a38 else if k = 40 then a40 else if k = 41 then v40 else if k = 42 then a42 else if k = 44 then a44 else if k = 46 then a46 else if k = 48 then a48 else if k = 49 then v48 else if k = 50 then a50 else if k = 51 then v50 else if k = 52 then a52 else if k = 53 then v52 else if k = 54 then a54 else if k = 55 then v54 else 0), K0 L xs), ⟨hx, hb, hr, hml, hown, fun w hw => hts w (List.mem_filter.mp hw).1, hlk, htb, hst, fun e => absurd e (by decide +kernel), ⟨?_, ?_⟩, ?_, ?_, ⟨htt _ ar_e.2.1, htt _ ar_e.2.2.1, htt _ ar_e.2.2.2, fun q hq => va_Nc.of (xp_e hn q hq)⟩, ⟨?_, ?_, ?_, vx_Zqof (htt _ ls_e.2.1) (hin _ (by decide +kernel)) (th_u hn) hA, vx_Zqof (htt _ ls_e.2.2) (hin _ (by decide +kernel)) (th_s hn) hA, ?_⟩, fun q h => h⟩, rfl, rfl⟩
  · intro c r hc
    have h7 := vwCl_lt hc
    cases Option.some.inj (hc.symm.trans (vwCl_at h7))
    exact hqK c h7
  · intro k q hk
    have h6 : k < 6 := (List.getElem?_eq_some_iff.mp hk).1
    rcases (show k = 0 ∨ k = 1 ∨ k = 2 ∨ k = 3 ∨ k = 4 ∨ k = 5 by omega) with rfl | rfl | rfl | rfl | rfl | rfl <;> cases hk
    · exact ⟨p0, q0⟩
    · exact ⟨p1, q1⟩
    · exact ⟨p2, q2⟩
    · exact ⟨p3, q3⟩
    · exact ⟨p4, q4⟩
    · exact ⟨p5, q5⟩
  · intro w hw
    obtain ⟨h1, h2⟩ := List.mem_filter.mp hw
    have h3 := hts w h1
    cases w <;> first | (simp [nwf] at h2; done) | exact va_Nw.of rfl h3
  · intro q hq
    have hw := htt _ (sr_r q hq)
    unfold SR0 at hq
    simp only [List.mem_cons, List.not_mem_nil, or_false] at hq
    rcases hq with rfl | rfl | rfl | rfl | rfl | rfl | rfl | rfl | rfl | rfl | rfl | rfl | rfl | rfl | rfl | rfl | rfl | rfl | rfl | rfl | rfl | rfl | rfl | rfl
    · exact vk_R.of hw e0
    · exact vk_R.of hw e1
    · exact vk_R.of hw e2
    · exact vk_R.of hw e3
    · exact vk_R.of hw e4
    · exact vk_R.of hw e5
    · exact vk_R.of hw e6
    · exact vk_R.of hw e7
    · exact vk_R.of hw e8
    · exact vk_R.of hw e9
    · exact vk_R.of hw e10
    · exact vk_R.of hw e11
    · exact vk_R.of hw e12
    · exact vk_R.of hw e13
    · exact vk_R.of hw e14
    · exact vk_R.of hw e15
    · exact vk_R.of hw e16
    · exact vk_R.of hw e17
    · exact vk_R.of hw e18
    · exact vk_R.of hw e19
    · exact vk_R.of hw e20
    · exact vk_R.of hw e21
    · exact vk_R.of hw e22
    · exact vk_R.of hw e23
  · intro i ci fs hi hf
    rcases K0_inr hf with ⟨hc9, rfl, rfl⟩ | ⟨hc9, rfl, rfl⟩ | ⟨hc9, rfl, rfl⟩ | ⟨hc9, rfl, rfl⟩ | ⟨hc9, rfl, rfl⟩ | ⟨hc9, rfl, rfl⟩
    · have e9 : (fun k => if k = 0 then b else if k < 6 then aK (k - 1) else if k = 6 then dt else if k = 7 then dn else if k = 10 then a10 else if k = 12 then a12 else if k = 14 then a14 else if k = 16 then a16 else if k = 18 then a18 else if k = 20 then a20 else if k = 22 then a22 else if k = 24 then a24 else if k = 26 then a26 else if k = 28 then a28 else if k = 30 then a30 else if k = 32 then a32 else if k = 34 then a34 else if k = 36 then a36 else if k = 38 then a38 else if k = 40 then a40 else if k = 41 then v40 else if k = 42 then a42 else if k = 44 then a44 else if k = 46 then a46 else if k = 48 then a48 else if k = 49 then v48 else if k = 50 then a50 else if k = 51 then v50 else if k = 52 then a52 else if k = 53 then v52 else if k = 54 then a54 else if k = 55 then v54 else 0) i = aK (i - 1) := (if_neg (by omega)).trans (if_pos (by omega))
      have h9 := hE.1 (i - 1) (by show i - 1 < 5; omega)
      show va_O (CN 7) ((fun k => if k = 0 then b else if k < 6 then aK (k - 1) else if k = 6 then dt else if k = 7 then dn else if k = 10 then a10 else if k = 12 then a12 else if k = 14 then a14 else if k = 16 then a16 else if k = 18 then a18 else if k = 20 then a20 else if k = 22 then a22 else if k = 24 then a24 else if k = 26 then a26 else if k = 28 then a28 else if k = 30 then a30 else if k = 32 then a32 else if k = 34 then a34 else if k = 36 then a36 else if k = 38 then a38 else if k = 40 then a40 else if k = 41 then v40 else if k = 42 then a42 else if k = 44 then a44 else if k = 46 then a46 else if k = 48 then a48 else if k = 49 then v48 else if k = 50 then a50 else if k = 51 then v50 else if k = 52 then a52 else if k = 53 then v52 else if k = 54 then a54 else if k = 55 then v54 else 0) i) _ _ _ ∧ ∀ (k : Nat) (v : Value), _ → va_OF _ _ _ _ ((fun k => if k = 0 then b else if k < 6 then aK (k - 1) else if k = 6 then dt else if k = 7 then dn else if k = 10 then a10 else if k = 12 then a12 else if k = 14 then a14 else if k = 16 then a16 else if k = 18 then a18 else if k = 20 then a20 else if k = 22 then a22 else if k = 24 then a24 else if k = 26 then a26 else if k = 28 then a28 else if k = 30 then a30 else if k = 32 then a32 else if k = 34 then a34 else if k = 36 then a36 else if k = 38 then a38 else if k = 40 then a40 else if k = 41 then v40 else if k = 42 then a42 else if k = 44 then a44 else if k = 46 then a46 else if k = 48 then a48 else if k = 49 then v48 else if k = 50 then a50 else if k = 51 then v50 else if k = 52 then a52 else if k = 53 then v52 else if k = 54 then a54 else if k = 55 then v54 else 0) i) _ _ _
      rw [e9]
      refine ⟨h9.2.1, fun k v hk => ?_⟩
      have h3 : k < 3 := (List.getElem?_eq_some_iff.mp hk).1
      have hq := h9.2.2
      rcases (show i = 1 ∨ i = 2 ∨ i = 3 ∨ i = 4 ∨ i = 5 by omega) with rfl | rfl | rfl | rfl | rfl <;> rcases (show k = 0 ∨ k = 1 ∨ k = 2 by omega) with rfl | rfl | rfl <;> cases hk
      · exact hq _ (List.mem_cons_self)
      · exact hq _ (List.mem_cons_of_mem _ List.mem_cons_self)
      · exact hq _ (List.mem_cons_of_mem _ (List.mem_cons_of_mem _ List.mem_cons_self))
      · exact hq _ (List.mem_cons_self)
      · exact hq _ (List.mem_cons_of_mem _ List.mem_cons_self)
      · exact hq _ (List.mem_cons_of_mem _ (List.mem_cons_of_mem _ List.mem_cons_self))
      · exact hq _ (List.mem_cons_self)
      · exact hq _ (List.mem_cons_of_mem _ List.mem_cons_self)
      · exact hq _ (List.mem_cons_of_mem _ (List.mem_cons_of_mem _ List.mem_cons_self))
      · exact hq _ (List.mem_cons_self)
      · exact hq _ (List.mem_cons_of_mem _ List.mem_cons_self)
      · exact hq _ (List.mem_cons_of_mem _ (List.mem_cons_of_mem _ List.mem_cons_self))
      · exact hq _ (List.mem_cons_self)
      · exact hq _ (List.mem_cons_of_mem _ List.mem_cons_self)
      · exact hq _ (List.mem_cons_of_mem _ (List.mem_cons_of_mem _ List.mem_cons_self))
    · subst hc9
      refine ⟨hO40, fun k v hk => ?_⟩
      have h2 : k < 2 := (List.getElem?_eq_some_iff.mp hk).1
      rcases (show k = 0 ∨ k = 1 by omega) with rfl | rfl <;> cases hk
      · exact hv40
      · exact hc40
    · subst hc9
      refine ⟨hO48, fun k v hk => ?_⟩
      have h2 : k < 2 := (List.getElem?_eq_some_iff.mp hk).1
      rcases (show k = 0 ∨ k = 1 by omega) with rfl | rfl <;> cases hk
      · exact hv48
      · exact hc48
    · subst hc9
      refine ⟨hO50, fun k v hk => ?_⟩
      have h2 : k < 2 := (List.getElem?_eq_some_iff.mp hk).1
      rcases (show k = 0 ∨ k = 1 by omega) with rfl | rfl <;> cases hk
      · exact hv50
      · exact hc50
    · subst hc9
      refine ⟨hO52, fun k v hk => ?_⟩
      have h2 : k < 2 := (List.getElem?_eq_some_iff.mp hk).1
      rcases (show k = 0 ∨ k = 1 by omega) with rfl | rfl <;> cases hk
      · exact hv52
      · exact hc52
    · subst hc9
      refine ⟨hO54, fun k v hk => ?_⟩
      have h2 : k < 2 := (List.getElem?_eq_some_iff.mp hk).1
      rcases (show k = 0 ∨ k = 1 by omega) with rfl | rfl <;> cases hk
      · exact hv54
      · exact hc54
  · intro i t n f hi hf ht
    rcases K0_inl hf ht with ⟨rfl, rfl, rfl, rfl⟩ | ⟨rfl, rfl, rfl, rfl⟩ | ⟨rfl, rfl, rfl, rfl⟩ | ⟨rfl, rfl, rfl, rfl⟩ | ⟨rfl, rfl, rfl, rfl⟩ | ⟨rfl, rfl, rfl, rfl⟩ | ⟨rfl, rfl, rfl, rfl⟩ | ⟨rfl, rfl, rfl, rfl⟩
    · obtain ⟨scr, g1, g2, g3, g4, g5⟩ := hX
      exact ⟨scr, g1, g2, g3, Nat.le_of_eq g4.symm, congrArg Nat.toInt32 g4, g5, hA _ (Array.getElem?_eq_some_iff.mp g1).1⟩
    · exact hdt
    · exact hdo
    · exact hT40
    · exact hT48
    · exact hT50
    · exact hT52
    · exact hT54
  · intro q hq
    unfold ST at hq
    simp only [List.mem_cons, List.not_mem_nil, or_false] at hq
    rcases hq with rfl | rfl | rfl | rfl | rfl | rfl | rfl | rfl
    · exact (hE.1 0 (by decide +kernel)).1
    · exact (hE.1 1 (by decide +kernel)).1
    · exact (hE.1 2 (by decide +kernel)).1
    · exact (hE.1 3 (by decide +kernel)).1
    · exact (hE.1 4 (by decide +kernel)).1
    · exact va_Zref (htt _ ls_e.1.1) (hin _ (by decide +kernel)) et hA
    · exact va_Zref (htt _ ls_e.1.2.1) (hin _ (by decide +kernel)) eo hA
    · exact va_Zof (htt _ ls_e.1.2.2) (hin _ (by decide +kernel)) (va_eqi (cs_e hn)) hA
  · intro i j h1 h2 h3 h4 e
    have ei : (fun k => if k = 0 then b else if k < 6 then aK (k - 1) else if k = 6 then dt else if k = 7 then dn else if k = 10 then a10 else if k = 12 then a12 else if k = 14 then a14 else if k = 16 then a16 else if k = 18 then a18 else if k = 20 then a20 else if k = 22 then a22 else if k = 24 then a24 else if k = 26 then a26 else if k = 28 then a28 else if k = 30 then a30 else if k = 32 then a32 else if k = 34 then a34 else if k = 36 then a36 else if k = 38 then a38 else if k = 40 then a40 else if k = 41 then v40 else if k = 42 then a42 else if k = 44 then a44 else if k = 46 then a46 else if k = 48 then a48 else if k = 49 then v48 else if k = 50 then a50 else if k = 51 then v50 else if k = 52 then a52 else if k = 53 then v52 else if k = 54 then a54 else if k = 55 then v54 else 0) i = aK (i - 1) := (if_neg (by omega)).trans (if_pos (by omega))
    have ej : (fun k => if k = 0 then b else if k < 6 then aK (k - 1) else if k = 6 then dt else if k = 7 then dn else if k = 10 then a10 else if k = 12 then a12 else if k = 14 then a14 else if k = 16 then a16 else if k = 18 then a18 else if k = 20 then a20 else if k = 22 then a22 else if k = 24 then a24 else if k = 26 then a26 else if k = 28 then a28 else if k = 30 then a30 else if k = 32 then a32 else if k = 34 then a34 else if k = 36 then a36 else if k = 38 then a38 else if k = 40 then a40 else if k = 41 then v40 else if k = 42 then a42 else if k = 44 then a44 else if k = 46 then a46 else if k = 48 then a48 else if k = 49 then v48 else if k = 50 then a50 else if k = 51 then v50 else if k = 52 then a52 else if k = 53 then v52 else if k = 54 then a54 else if k = 55 then v54 else 0) j = aK (j - 1) := (if_neg (by omega)).trans (if_pos (by omega))
    have e9 := hE.2 (i - 1) (j - 1) (by show i - 1 < 5; omega) (by show j - 1 < 5; omega) (ei.symm.trans ((show (fun k => if k = 0 then b else if k < 6 then aK (k - 1) else if k = 6 then dt else if k = 7 then dn else if k = 10 then a10 else if k = 12 then a12 else if k = 14 then a14 else if k = 16 then a16 else if k = 18 then a18 else if k = 20 then a20 else if k = 22 then a22 else if k = 24 then a24 else if k = 26 then a26 else if k = 28 then a28 else if k = 30 then a30 else if k = 32 then a32 else if k = 34 then a34 else if k = 36 then a36 else if k = 38 then a38 else if k = 40 then a40 else if k = 41 then v40 else if k = 42 then a42 else if k = 44 then a44 else if k = 46 then a46 else if k = 48 then a48 else if k = 49 then v48 else if k = 50 then a50 else if k = 51 then v50 else if k = 52 then a52 else if k = 53 then v52 else if k = 54 then a54 else if k = 55 then v54 else 0) i = (fun k => if k = 0 then b else if k < 6 then aK (k - 1) else if k = 6 then dt else if k = 7 then dn else if k = 10 then a10 else if k = 12 then a12 else if k = 14 then a14 else if k = 16 then a16 else if k = 18 then a18 else if k = 20 then a20 else if k = 22 then a22 else if k = 24 then a24 else if k = 26 then a26 else if k = 28 then a28 else if k = 30 then a30 else if k = 32 then a32 else if k = 34 then a34 else if k = 36 then a36 else if k = 38 then a38 else if k = 40 then a40 else if k = 41 then v40 else if k = 42 then a42 else if k = 44 then a44 else if k = 46 then a46 else if k = 48 then a48 else if k = 49 then v48 else if k = 50 then a50 else if k = 51 then v50 else if k = 52 then a52 else if k = 53 then v52 else if k = 54 then a54 else if k = 55 then v54 else 0) j from e).trans ej))
    omega
end
