section
/-! 57.law -/
/-! the law's cases -/
theorem SW.bud {SR : SRT} {M : MI} {d bc bs bc' bs' pc n : Nat} {lv : List (Nat × Value)} {st : List Value} {h : AH} {Post : ARes → AH → Nat → Prop} (k : SW SR M d bc bs pc lv st h n Post) (h1 : bc ≤ bc') (h2 : bs ≤ bs') : SW SR M d bc' bs' pc lv st h n Post := by
  intro G p l e R s m args below meth c A ad0 n0 Q hc hr he H locs cells slots ls ad hm hl hx hbc hbs
  exact k G p l e R s m args below meth c A ad0 n0 Q hc hr he H locs cells slots ls ad hm hl hx (by omega) (by omega)
theorem lg_self (x : Int64) : lg_cmp x x = 0 := by
  unfold lg_cmp
  simp
/-- between two calls -/
def LI (L : Nat) (xs : Nat → Int32) (h : AH) (n : Nat) (σ : CS) (N : Nat) : Prop := RC h σ ∧ (∃ th, RMo h σ th) ∧ TXT h ∧ IV σ N ∧ (∃ w s, h 158 = .inr (5, [.long w, s])) ∧ h 0 = .inl (0, L, .inl xs) ∧ 159 ≤ n
section
variable {h : AH} {n n' : Nat} {t : ARes → Int32} {q : ARes × CS}
theorem lpo_k {A : Nat → AH → Option Value → Prop} {n0 : Nat} (k : ∀ h' n' w s, n ≤ n' → RC h' q.2 → h' 158 = .inr (5, [.long w, s]) → (∀ v, q.1 = rI v → w = v.toInt64) → (∀ i, i < 100 ∨ 135 ≤ i → i ≠ 158 → i < n → h' i = h i) → A n' h' (some (.int (t q.1)))) : ∀ (v : Option Value) (h' : AH) (n' : Nat), n0 ≤ n' → LPo h n t q (.inl v) h' n' → A n' h' v := by
  rintro v h' n' - ⟨e, g1, g2, ⟨w, s, g3, g4⟩, g5⟩
  cases e
  exact k h' n' w s g1 g2 g3 g4 g5
theorem lpt_k {A : Nat → AH → Option Value → Prop} {n0 : Nat} {c : List Int32} (k : ∀ h' n' w s, n ≤ n' → RC h' q.2 → h' 158 = .inr (5, [.long w, s]) → (q.1 = ivN → ∃ x L, s = .ref x ∧ L ≤ 200 ∧ StN h' n' n x L c) → (∀ i, i < 100 ∨ 135 ≤ i → i ≠ 158 → i < n → h' i = h i) → A n' h' (some (.int (t q.1)))) : ∀ (v : Option Value) (h' : AH) (n' : Nat), n0 ≤ n' → LPt h n t q c (.inl v) h' n' → A n' h' v := by
  rintro v h' n' - ⟨e, g1, g2, ⟨w, s, g3, g4⟩, g5⟩
  cases e
  exact k h' n' w s g1 g2 g3 g4 g5
theorem lpt_x {A : Prop} {E : String} {h' : AH} {n' : Nat} {c : List Int32} (z : LPt h n t q c (.inr E) h' n') : A := by cases z.1
theorem ptl_k {A : Nat → AH → Option Value → Prop} {n0 : Nat} {c : List Int32} (k : ∀ h' n' x, n ≤ n' → (q.1 = ivN → ∃ L, L ≤ 200 ∧ StN h' n' n x L c) → RMo h' q.2 (t q.1) → FrM h h' n → A n' h' (some (.ref x))) : ∀ (v : Option Value) (h' : AH) (n' : Nat), n0 ≤ n' → PT h n t q c (.inl v) h' n' → A n' h' v := by
  rintro v h' n' - ⟨g1, ⟨x, e, g2⟩, g3, g4⟩
  cases e
  exact k h' n' x g1 g2 g3 g4
theorem ot_0 {l : List String} {a b : String} (hO : OT l q) (e : tc a b q.1 = 0) : q.1 = ivN := by
  rcases hO with e2 | ⟨E, -, e2⟩
  · exact e2
  · exfalso
    rw [e2] at e
    have e3 : (if E = a then (1 : Int32) else if E = b then 2 else 3) = 0 := e
    split at e3
    · exact absurd e3 (by decide +kernel)
    · split at e3
      · exact absurd e3 (by decide +kernel)
      · exact absurd e3 (by decide +kernel)
theorem lpo_x {A : Prop} {E : String} {h' : AH} {n' : Nat} (z : LPo h n t q (.inr E) h' n') : A := by cases z.1
theorem pmc_k {A : Nat → AH → Option Value → Prop} {l : List String} {n0 : Nat} (hO : OX l q) (k : ∀ h' n' b, n ≤ n' → (∀ v, q.1 = rI v → b = v) → RMo h' q.2 (t q.1) → FrM h h' n → A n' h' (some (.int b))) : ∀ (v : Option Value) (h' : AH) (n' : Nat), n0 ≤ n' → PM h n t q (.inl v) h' n' → A n' h' v := by
  rintro v h' n' - ⟨e, g1, g2, g3⟩
  rcases hO with ⟨b, e2⟩ | ⟨E, -, e2⟩
  · have e3 : v = some (.int b) := by rw [e2] at e; exact Sum.inl.inj e
    rw [e3]
    exact k h' n' b g1 (fun v e4 => by rw [e2] at e4; exact Value.int.inj (Option.some.inj (Sum.inl.inj e4))) g2 g3
  · have e3 : v = some (.int 0) := by rw [e2] at e; exact Sum.inl.inj e
    rw [e3]
    exact k h' n' 0 g1 (fun v e4 => by rw [e2] at e4; cases e4) g2 g3
theorem pmc_x {A : Prop} {E : String} {h' : AH} {n' : Nat} (z : PM h n t q (.inr E) h' n') : A := by cases z.1
theorem ox_0 {l : List String} {a b : String} (hO : OX l q) (e : tc a b q.1 = 0) : ∃ v, q.1 = rI v := by
  rcases hO with e2 | ⟨E, -, e2⟩
  · exact e2
  · exfalso
    rw [e2] at e
    have e3 : (if E = a then (1 : Int32) else if E = b then 2 else 3) = 0 := e
    split at e3
    · exact absurd e3 (by decide +kernel)
    · split at e3
      · exact absurd e3 (by decide +kernel)
      · exact absurd e3 (by decide +kernel)
end
def ML_law : MI := (yL_law, cL_law, 7, (Option.some Jvm.ClassFile.FieldType.boolean), [])
theorem dpc_k {A : Nat → AH → Option Value → Prop} {h : AH} {n n0 : Nat} {σ : CS} (k : ∀ h' n', n ≤ n' → RMo h' σ 0 → FrM h h' n → A n' h' (some (.long (dgZ σ)))) : ∀ (v : Option Value) (h' : AH) (n' : Nat), n0 ≤ n' → DP h n σ (.inl v) h' n' → A n' h' v := by
  rintro v h' n' - ⟨e, g1, g2, g3⟩
  cases e
  exact k h' n' g1 g2 g3
theorem lc_0 {L : Nat} {xs : Nat → Int32} {h : AH} {n i N d bc bs : Nat} {σ : CS} {Post : ARes → AH → Nat → Prop} (hI : LI L xs h n σ N) (hN : N < 2 ^ 31) (hL : L ≤ 3072) (hi : i + 6 ≤ L) (hd : 20 ≤ d) (h1 : 380 ≤ bc) (h2 : 4500 ≤ bs) (K : ∀ (h' : AH) (n' : Nat) (σ' : CS), n ≤ n' → LI L xs h' n' σ' (N + 12) → SW SR0 ML_law d (bc - 380) (bs - 4500) 1945 [(4, .int (nI i)), (3, .ref 158), (2, .ref 135), (1, .ref 100), (0, .ref 0)] [] h' n' Post) : SW SR0 ML_law d bc bs 236 [(4, .int (nI i)), (3, .ref 158), (2, .ref 135), (1, .ref 100), (0, .ref 0)] [] h n Post := by
  obtain ⟨hR, ⟨th, hQ⟩, hT, hV, ⟨w, s, hO⟩, hs, hn⟩ := hI
  refine sw_aload_n (pc' := 237) rfl dL_law_236 rfl ?_
  refine sw_aload_n (pc' := 238) rfl dL_law_237 rfl ?_
  refine sw_iload (pc' := 240) rfl dL_law_238 rfl ?_
  refine sw_iconst (pc' := 241) (v := 1) rfl dL_law_240 (by decide +kernel) ?_
  refine sw_iadd (pc' := 242) rfl dL_law_241 ?_
  rw [show (nI i) + 1 = nI (i + 1) from nI_add _ _]
  refine sw_iald (j := i + 1) (pc' := 243) rfl dL_law_242 hs rfl (by omega) (by omega) ?_
  refine sw_aload_n (pc' := 244) rfl dL_law_243 rfl ?_
  refine sw_iload (pc' := 246) rfl dL_law_244 rfl ?_
  refine sw_iconst (pc' := 247) (v := 2) rfl dL_law_246 (by decide +kernel) ?_
  refine sw_iadd (pc' := 248) rfl dL_law_247 ?_
  rw [show (nI i) + 2 = nI (i + 2) from nI_add _ _]
  refine sw_iald (j := i + 2) (pc' := 249) rfl dL_law_248 hs rfl (by omega) (by omega) ?_
  refine sw_aload_n (pc' := 250) rfl dL_law_249 rfl ?_
  refine sw_S (M' := ML_put) (d' := d - 1) (bc' := 60) (bs' := 400) (as := [_, _, _, _]) dL_law_250 w_392 ok_L_put (L_put hR hT hV hN hO hn (by omega) (Nat.le_refl _) (Nat.le_refl _)) (by omega) (Nat.le_of_ble_eq_true rfl) (by omega) (by omega) (fun E h' n' _ z => lpo_x z) (lpo_k (fun p pn pw ps pk pR pO pv pF => ?_))
  refine sw_istore (pc' := 255) (lv' := [(5, _), (4, _), (3, _), (2, _), (1, _), (0, _)]) rfl dL_law_253 (by decide +kernel) rfl ?_
  refine sw_aload_n (pc' := 256) rfl dL_law_255 rfl ?_
  refine sw_aload_n (pc' := 257) rfl dL_law_256 rfl ?_
  refine sw_iload (pc' := 259) rfl dL_law_257 rfl ?_
  refine sw_iconst (pc' := 260) (v := 1) rfl dL_law_259 (by decide +kernel) ?_
  refine sw_iadd (pc' := 261) rfl dL_law_260 ?_
  rw [show (nI i) + 1 = nI (i + 1) from nI_add _ _]
  refine sw_iald (j := i + 1) (pc' := 262) rfl dL_law_261 ((pF 0 (by omega) (by omega) (by omega)).trans hs) rfl (by omega) (by omega) ?_
  refine sw_aload_n (pc' := 263) rfl dL_law_262 rfl ?_
  refine sw_iload (pc' := 265) rfl dL_law_263 rfl ?_
  refine sw_iconst (pc' := 266) (v := 2) rfl dL_law_265 (by decide +kernel) ?_
  refine sw_iadd (pc' := 267) rfl dL_law_266 ?_
  rw [show (nI i) + 2 = nI (i + 2) from nI_add _ _]
  refine sw_iald (j := i + 2) (pc' := 268) rfl dL_law_267 ((pF 0 (by omega) (by omega) (by omega)).trans hs) rfl (by omega) (by omega) ?_
  have hQ2 := hQ.fr (fun i a b => pF i (by omega) (by omega) (by omega))
  obtain ⟨ρ, τ, hM, hA⟩ := id hQ2
  refine sw_V (M' := MX5_put) (d' := d - 1) (bc' := 1) (bs' := 12) (ci := 6) (as := [_, _]) dL_law_268 w_1161 ok_X5_put (q_put hQ2 (hV.iv hN) (by omega) (by omega) (Nat.le_refl _) (Nat.le_refl _)) hM.ob rfl (by omega) (Nat.le_of_ble_eq_true rfl) (by omega) (by omega) (fun E h' n' _ z => pmc_x z) (pmc_k ox_put (fun u un ub uk uv uR uF => ?_))
  refine sw_istore (pc' := 273) (lv' := [(6, _), (5, _), (4, _), (3, _), (2, _), (1, _), (0, _)]) rfl dL_law_271 (by decide +kernel) rfl ?_
  refine sw_goto (tgt := 1945) dL_law_273 (by decide +kernel) ?_
  have J : LI L xs u un (opPut σ (xs (i + 1)) (xs (i + 2))).2 (N + 12) := ⟨pR.frT (fun i hi => uF i (by omega) (by omega)), ⟨_, uR⟩, hT.fr (fun i hi => (uF i (by omega) (by omega)).trans (pF i (by omega) (by omega) (by omega))), iv_put hV, ⟨_, _, (uF 158 (by omega) (by omega)).trans pO⟩, (uF 0 (by omega) (by omega)).trans ((pF 0 (by omega) (by omega) (by omega)).trans hs), by omega⟩
  exact SW.pick [2, 3, 4, 5, 6] rfl ((K u un _ (by omega) J).bud (by omega) (by omega))
theorem lc_1 {L : Nat} {xs : Nat → Int32} {h : AH} {n i N d bc bs : Nat} {σ : CS} {Post : ARes → AH → Nat → Prop} (hI : LI L xs h n σ N) (hN : N < 2 ^ 31) (hL : L ≤ 3072) (hi : i + 6 ≤ L) (hd : 20 ≤ d) (h1 : 380 ≤ bc) (h2 : 4500 ≤ bs) (K : ∀ (h' : AH) (n' : Nat) (σ' : CS), n ≤ n' → LI L xs h' n' σ' (N + 12) → SW SR0 ML_law d (bc - 380) (bs - 4500) 1945 [(4, .int (nI i)), (3, .ref 158), (2, .ref 135), (1, .ref 100), (0, .ref 0)] [] h' n' Post) : SW SR0 ML_law d bc bs 276 [(4, .int (nI i)), (3, .ref 158), (2, .ref 135), (1, .ref 100), (0, .ref 0)] [] h n Post := by
  obtain ⟨hR, ⟨th, hQ⟩, hT, hV, ⟨w, s, hO⟩, hs, hn⟩ := hI
  refine sw_aload_n (pc' := 277) rfl dL_law_276 rfl ?_
  refine sw_aload_n (pc' := 278) rfl dL_law_277 rfl ?_
  refine sw_iload (pc' := 280) rfl dL_law_278 rfl ?_
  refine sw_iconst (pc' := 281) (v := 1) rfl dL_law_280 (by decide +kernel) ?_
  refine sw_iadd (pc' := 282) rfl dL_law_281 ?_
  rw [show (nI i) + 1 = nI (i + 1) from nI_add _ _]
  refine sw_iald (j := i + 1) (pc' := 283) rfl dL_law_282 hs rfl (by omega) (by omega) ?_
  refine sw_aload_n (pc' := 284) rfl dL_law_283 rfl ?_
  refine sw_iload (pc' := 286) rfl dL_law_284 rfl ?_
  refine sw_iconst (pc' := 287) (v := 2) rfl dL_law_286 (by decide +kernel) ?_
  refine sw_iadd (pc' := 288) rfl dL_law_287 ?_
  rw [show (nI i) + 2 = nI (i + 2) from nI_add _ _]
  refine sw_iald (j := i + 2) (pc' := 289) rfl dL_law_288 hs rfl (by omega) (by omega) ?_
  refine sw_aload_n (pc' := 290) rfl dL_law_289 rfl ?_
  refine sw_iload (pc' := 292) rfl dL_law_290 rfl ?_
  refine sw_iconst (pc' := 293) (v := 3) rfl dL_law_292 (by decide +kernel) ?_
  refine sw_iadd (pc' := 294) rfl dL_law_293 ?_
  rw [show (nI i) + 3 = nI (i + 3) from nI_add _ _]
  refine sw_iald (j := i + 3) (pc' := 295) rfl dL_law_294 hs rfl (by omega) (by omega) ?_
  refine sw_aload_n (pc' := 296) rfl dL_law_295 rfl ?_
  refine sw_iload (pc' := 298) rfl dL_law_296 rfl ?_
  refine sw_iconst (pc' := 299) (v := 4) rfl dL_law_298 (by decide +kernel) ?_
  refine sw_iadd (pc' := 300) rfl dL_law_299 ?_
  rw [show (nI i) + 4 = nI (i + 4) from nI_add _ _]
  refine sw_iald (j := i + 4) (pc' := 301) rfl dL_law_300 hs rfl (by omega) (by omega) ?_
  refine sw_aload_n (pc' := 302) rfl dL_law_301 rfl ?_
  refine sw_iload (pc' := 304) rfl dL_law_302 rfl ?_
  refine sw_iconst (pc' := 305) (v := 5) rfl dL_law_304 (by decide +kernel) ?_
  refine sw_iadd (pc' := 306) rfl dL_law_305 ?_
  rw [show (nI i) + 5 = nI (i + 5) from nI_add _ _]
  refine sw_iald (j := i + 5) (pc' := 307) rfl dL_law_306 hs rfl (by omega) (by omega) ?_
  refine sw_aload_n (pc' := 308) rfl dL_law_307 rfl ?_
  refine sw_S (M' := ML_putAll) (d' := d - 1) (bc' := 60) (bs' := 400) (as := [_, _, _, _, _, _, _]) dL_law_308 w_457 ok_L_putAll (L_putAll hR hT hV hN hO hn (by omega) (Nat.le_refl _) (Nat.le_refl _)) (by omega) (Nat.le_of_ble_eq_true rfl) (by omega) (by omega) (fun E h' n' _ z => lpo_x z) (lpo_k (fun p pn pw ps pk pR pO pv pF => ?_))
  refine sw_istore (pc' := 313) (lv' := [(5, _), (4, _), (3, _), (2, _), (1, _), (0, _)]) rfl dL_law_311 (by decide +kernel) rfl ?_
  refine sw_aload_n (pc' := 314) rfl dL_law_313 rfl ?_
  refine sw_aload_n (pc' := 315) rfl dL_law_314 rfl ?_
  refine sw_iload (pc' := 317) rfl dL_law_315 rfl ?_
  refine sw_iconst (pc' := 318) (v := 1) rfl dL_law_317 (by decide +kernel) ?_
  refine sw_iadd (pc' := 319) rfl dL_law_318 ?_
  rw [show (nI i) + 1 = nI (i + 1) from nI_add _ _]
  refine sw_iald (j := i + 1) (pc' := 320) rfl dL_law_319 ((pF 0 (by omega) (by omega) (by omega)).trans hs) rfl (by omega) (by omega) ?_
  refine sw_aload_n (pc' := 321) rfl dL_law_320 rfl ?_
  refine sw_iload (pc' := 323) rfl dL_law_321 rfl ?_
  refine sw_iconst (pc' := 324) (v := 2) rfl dL_law_323 (by decide +kernel) ?_
  refine sw_iadd (pc' := 325) rfl dL_law_324 ?_
  rw [show (nI i) + 2 = nI (i + 2) from nI_add _ _]
  refine sw_iald (j := i + 2) (pc' := 326) rfl dL_law_325 ((pF 0 (by omega) (by omega) (by omega)).trans hs) rfl (by omega) (by omega) ?_
  refine sw_aload_n (pc' := 327) rfl dL_law_326 rfl ?_
  refine sw_iload (pc' := 329) rfl dL_law_327 rfl ?_
  refine sw_iconst (pc' := 330) (v := 3) rfl dL_law_329 (by decide +kernel) ?_
  refine sw_iadd (pc' := 331) rfl dL_law_330 ?_
  rw [show (nI i) + 3 = nI (i + 3) from nI_add _ _]
  refine sw_iald (j := i + 3) (pc' := 332) rfl dL_law_331 ((pF 0 (by omega) (by omega) (by omega)).trans hs) rfl (by omega) (by omega) ?_
  refine sw_aload_n (pc' := 333) rfl dL_law_332 rfl ?_
  refine sw_iload (pc' := 335) rfl dL_law_333 rfl ?_
  refine sw_iconst (pc' := 336) (v := 4) rfl dL_law_335 (by decide +kernel) ?_
  refine sw_iadd (pc' := 337) rfl dL_law_336 ?_
  rw [show (nI i) + 4 = nI (i + 4) from nI_add _ _]
  refine sw_iald (j := i + 4) (pc' := 338) rfl dL_law_337 ((pF 0 (by omega) (by omega) (by omega)).trans hs) rfl (by omega) (by omega) ?_
  refine sw_aload_n (pc' := 339) rfl dL_law_338 rfl ?_
  refine sw_iload (pc' := 341) rfl dL_law_339 rfl ?_
  refine sw_iconst (pc' := 342) (v := 5) rfl dL_law_341 (by decide +kernel) ?_
  refine sw_iadd (pc' := 343) rfl dL_law_342 ?_
  rw [show (nI i) + 5 = nI (i + 5) from nI_add _ _]
  refine sw_iald (j := i + 5) (pc' := 344) rfl dL_law_343 ((pF 0 (by omega) (by omega) (by omega)).trans hs) rfl (by omega) (by omega) ?_
  have hQ2 := hQ.fr (fun i a b => pF i (by omega) (by omega) (by omega))
  obtain ⟨ρ, τ, hM, hA⟩ := id hQ2
  refine sw_V (M' := MX5_putAll) (d' := d - 1) (bc' := 1) (bs' := 12) (ci := 6) (as := [_, _, _, _, _]) dL_law_344 w_1203 ok_X5_putAll (q_putAll hQ2 (hV.iv hN) (by omega) (by omega) (Nat.le_refl _) (Nat.le_refl _)) hM.ob rfl (by omega) (Nat.le_of_ble_eq_true rfl) (by omega) (by omega) (fun E h' n' _ z => pmc_x z) (pmc_k ox_putAll (fun u un ub uk uv uR uF => ?_))
  refine sw_istore (pc' := 349) (lv' := [(6, _), (5, _), (4, _), (3, _), (2, _), (1, _), (0, _)]) rfl dL_law_347 (by decide +kernel) rfl ?_
  refine sw_goto (tgt := 1945) dL_law_349 (by decide +kernel) ?_
  have J : LI L xs u un (opPutAll σ (xs (i + 1)) (xs (i + 2)) (xs (i + 3)) (xs (i + 4)) (xs (i + 5))).2 (N + 12) := ⟨pR.frT (fun i hi => uF i (by omega) (by omega)), ⟨_, uR⟩, hT.fr (fun i hi => (uF i (by omega) (by omega)).trans (pF i (by omega) (by omega) (by omega))), iv_putAll hV, ⟨_, _, (uF 158 (by omega) (by omega)).trans pO⟩, (uF 0 (by omega) (by omega)).trans ((pF 0 (by omega) (by omega) (by omega)).trans hs), by omega⟩
  exact SW.pick [2, 3, 4, 5, 6] rfl ((K u un _ (by omega) J).bud (by omega) (by omega))
theorem lc_2 {L : Nat} {xs : Nat → Int32} {h : AH} {n i N d bc bs : Nat} {σ : CS} {Post : ARes → AH → Nat → Prop} (hI : LI L xs h n σ N) (hN : N < 2 ^ 31) (hL : L ≤ 3072) (hi : i + 6 ≤ L) (hd : 20 ≤ d) (h1 : 380 ≤ bc) (h2 : 4500 ≤ bs) (K : ∀ (h' : AH) (n' : Nat) (σ' : CS), n ≤ n' → LI L xs h' n' σ' (N + 12) → SW SR0 ML_law d (bc - 380) (bs - 4500) 1945 [(4, .int (nI i)), (3, .ref 158), (2, .ref 135), (1, .ref 100), (0, .ref 0)] [] h' n' Post) : SW SR0 ML_law d bc bs 352 [(4, .int (nI i)), (3, .ref 158), (2, .ref 135), (1, .ref 100), (0, .ref 0)] [] h n Post := by
  obtain ⟨hR, ⟨th, hQ⟩, hT, hV, ⟨w, s, hO⟩, hs, hn⟩ := hI
  refine sw_aload_n (pc' := 353) rfl dL_law_352 rfl ?_
  refine sw_aload_n (pc' := 354) rfl dL_law_353 rfl ?_
  refine sw_iload (pc' := 356) rfl dL_law_354 rfl ?_
  refine sw_iconst (pc' := 357) (v := 1) rfl dL_law_356 (by decide +kernel) ?_
  refine sw_iadd (pc' := 358) rfl dL_law_357 ?_
  rw [show (nI i) + 1 = nI (i + 1) from nI_add _ _]
  refine sw_iald (j := i + 1) (pc' := 359) rfl dL_law_358 hs rfl (by omega) (by omega) ?_
  refine sw_aload_n (pc' := 360) rfl dL_law_359 rfl ?_
  refine sw_iload (pc' := 362) rfl dL_law_360 rfl ?_
  refine sw_iconst (pc' := 363) (v := 2) rfl dL_law_362 (by decide +kernel) ?_
  refine sw_iadd (pc' := 364) rfl dL_law_363 ?_
  rw [show (nI i) + 2 = nI (i + 2) from nI_add _ _]
  refine sw_iald (j := i + 2) (pc' := 365) rfl dL_law_364 hs rfl (by omega) (by omega) ?_
  refine sw_aload_n (pc' := 366) rfl dL_law_365 rfl ?_
  refine sw_S (M' := ML_take) (d' := d - 1) (bc' := 60) (bs' := 400) (as := [_, _, _, _]) dL_law_366 w_474 ok_L_take (L_take hR hT hV hN hO hn (by omega) (Nat.le_refl _) (Nat.le_refl _)) (by omega) (Nat.le_of_ble_eq_true rfl) (by omega) (by omega) (fun E h' n' _ z => lpo_x z) (lpo_k (fun p pn pw ps pk pR pO pv pF => ?_))
  refine sw_istore (pc' := 371) (lv' := [(5, _), (4, _), (3, _), (2, _), (1, _), (0, _)]) rfl dL_law_369 (by decide +kernel) rfl ?_
  refine sw_aload_n (pc' := 372) rfl dL_law_371 rfl ?_
  refine sw_aload_n (pc' := 373) rfl dL_law_372 rfl ?_
  refine sw_iload (pc' := 375) rfl dL_law_373 rfl ?_
  refine sw_iconst (pc' := 376) (v := 1) rfl dL_law_375 (by decide +kernel) ?_
  refine sw_iadd (pc' := 377) rfl dL_law_376 ?_
  rw [show (nI i) + 1 = nI (i + 1) from nI_add _ _]
  refine sw_iald (j := i + 1) (pc' := 378) rfl dL_law_377 ((pF 0 (by omega) (by omega) (by omega)).trans hs) rfl (by omega) (by omega) ?_
  refine sw_aload_n (pc' := 379) rfl dL_law_378 rfl ?_
  refine sw_iload (pc' := 381) rfl dL_law_379 rfl ?_
  refine sw_iconst (pc' := 382) (v := 2) rfl dL_law_381 (by decide +kernel) ?_
  refine sw_iadd (pc' := 383) rfl dL_law_382 ?_
  rw [show (nI i) + 2 = nI (i + 2) from nI_add _ _]
  refine sw_iald (j := i + 2) (pc' := 384) rfl dL_law_383 ((pF 0 (by omega) (by omega) (by omega)).trans hs) rfl (by omega) (by omega) ?_
  have hQ2 := hQ.fr (fun i a b => pF i (by omega) (by omega) (by omega))
  obtain ⟨ρ, τ, hM, hA⟩ := id hQ2
  refine sw_V (M' := MX5_take) (d' := d - 1) (bc' := 1) (bs' := 12) (ci := 6) (as := [_, _]) dL_law_384 w_1211 ok_X5_take (q_take hQ2 (hV.iv hN) (by omega) (by omega) (Nat.le_refl _) (Nat.le_refl _)) hM.ob rfl (by omega) (Nat.le_of_ble_eq_true rfl) (by omega) (by omega) (fun E h' n' _ z => pmc_x z) (pmc_k ox_take (fun u un ub uk uv uR uF => ?_))
  refine sw_istore (pc' := 389) (lv' := [(6, _), (5, _), (4, _), (3, _), (2, _), (1, _), (0, _)]) rfl dL_law_387 (by decide +kernel) rfl ?_
  refine sw_goto (tgt := 1945) dL_law_389 (by decide +kernel) ?_
  have J : LI L xs u un (opTake σ (xs (i + 1)) (xs (i + 2))).2 (N + 12) := ⟨pR.frT (fun i hi => uF i (by omega) (by omega)), ⟨_, uR⟩, hT.fr (fun i hi => (uF i (by omega) (by omega)).trans (pF i (by omega) (by omega) (by omega))), iv_take hV, ⟨_, _, (uF 158 (by omega) (by omega)).trans pO⟩, (uF 0 (by omega) (by omega)).trans ((pF 0 (by omega) (by omega) (by omega)).trans hs), by omega⟩
  exact SW.pick [2, 3, 4, 5, 6] rfl ((K u un _ (by omega) J).bud (by omega) (by omega))
theorem lc_3 {L : Nat} {xs : Nat → Int32} {h : AH} {n i N d bc bs : Nat} {σ : CS} {Post : ARes → AH → Nat → Prop} (hI : LI L xs h n σ N) (hN : N < 2 ^ 31) (hL : L ≤ 3072) (hi : i + 6 ≤ L) (hd : 20 ≤ d) (h1 : 380 ≤ bc) (h2 : 4500 ≤ bs) (K : ∀ (h' : AH) (n' : Nat) (σ' : CS), n ≤ n' → LI L xs h' n' σ' (N + 12) → SW SR0 ML_law d (bc - 380) (bs - 4500) 1945 [(4, .int (nI i)), (3, .ref 158), (2, .ref 135), (1, .ref 100), (0, .ref 0)] [] h' n' Post) : SW SR0 ML_law d bc bs 392 [(4, .int (nI i)), (3, .ref 158), (2, .ref 135), (1, .ref 100), (0, .ref 0)] [] h n Post := by
  obtain ⟨hR, ⟨th, hQ⟩, hT, hV, ⟨w, s, hO⟩, hs, hn⟩ := hI
  refine sw_aload_n (pc' := 393) rfl dL_law_392 rfl ?_
  refine sw_aload_n (pc' := 394) rfl dL_law_393 rfl ?_
  refine sw_iload (pc' := 396) rfl dL_law_394 rfl ?_
  refine sw_iconst (pc' := 397) (v := 1) rfl dL_law_396 (by decide +kernel) ?_
  refine sw_iadd (pc' := 398) rfl dL_law_397 ?_
  rw [show (nI i) + 1 = nI (i + 1) from nI_add _ _]
  refine sw_iald (j := i + 1) (pc' := 399) rfl dL_law_398 hs rfl (by omega) (by omega) ?_
  refine sw_aload_n (pc' := 400) rfl dL_law_399 rfl ?_
  refine sw_S (M' := ML_clear) (d' := d - 1) (bc' := 60) (bs' := 400) (as := [_, _, _]) dL_law_400 w_490 ok_L_clear (L_clear hR hT hV hN hO hn (by omega) (Nat.le_refl _) (Nat.le_refl _)) (by omega) (Nat.le_of_ble_eq_true rfl) (by omega) (by omega) (fun E h' n' _ z => lpo_x z) (lpo_k (fun p pn pw ps pk pR pO pv pF => ?_))
  refine sw_istore (pc' := 405) (lv' := [(5, _), (4, _), (3, _), (2, _), (1, _), (0, _)]) rfl dL_law_403 (by decide +kernel) rfl ?_
  refine sw_aload_n (pc' := 406) rfl dL_law_405 rfl ?_
  refine sw_aload_n (pc' := 407) rfl dL_law_406 rfl ?_
  refine sw_iload (pc' := 409) rfl dL_law_407 rfl ?_
  refine sw_iconst (pc' := 410) (v := 1) rfl dL_law_409 (by decide +kernel) ?_
  refine sw_iadd (pc' := 411) rfl dL_law_410 ?_
  rw [show (nI i) + 1 = nI (i + 1) from nI_add _ _]
  refine sw_iald (j := i + 1) (pc' := 412) rfl dL_law_411 ((pF 0 (by omega) (by omega) (by omega)).trans hs) rfl (by omega) (by omega) ?_
  have hQ2 := hQ.fr (fun i a b => pF i (by omega) (by omega) (by omega))
  obtain ⟨ρ, τ, hM, hA⟩ := id hQ2
  refine sw_V (M' := MX5_clear) (d' := d - 1) (bc' := 1) (bs' := 12) (ci := 6) (as := [_]) dL_law_412 w_1231 ok_X5_clear (q_clear hQ2 (hV.iv hN) (by omega) (by omega) (Nat.le_refl _) (Nat.le_refl _)) hM.ob rfl (by omega) (Nat.le_of_ble_eq_true rfl) (by omega) (by omega) (fun E h' n' _ z => pmc_x z) (pmc_k ox_clear (fun u un ub uk uv uR uF => ?_))
  refine sw_istore (pc' := 417) (lv' := [(6, _), (5, _), (4, _), (3, _), (2, _), (1, _), (0, _)]) rfl dL_law_415 (by decide +kernel) rfl ?_
  refine sw_goto (tgt := 1945) dL_law_417 (by decide +kernel) ?_
  have J : LI L xs u un (opClear σ (xs (i + 1))).2 (N + 12) := ⟨pR.frT (fun i hi => uF i (by omega) (by omega)), ⟨_, uR⟩, hT.fr (fun i hi => (uF i (by omega) (by omega)).trans (pF i (by omega) (by omega) (by omega))), iv_clear hV, ⟨_, _, (uF 158 (by omega) (by omega)).trans pO⟩, (uF 0 (by omega) (by omega)).trans ((pF 0 (by omega) (by omega) (by omega)).trans hs), by omega⟩
  exact SW.pick [2, 3, 4, 5, 6] rfl ((K u un _ (by omega) J).bud (by omega) (by omega))
theorem lc_4 {L : Nat} {xs : Nat → Int32} {h : AH} {n i N d bc bs : Nat} {σ : CS} {Post : ARes → AH → Nat → Prop} (hI : LI L xs h n σ N) (hN : N < 2 ^ 31) (hL : L ≤ 3072) (hi : i + 6 ≤ L) (hd : 20 ≤ d) (h1 : 380 ≤ bc) (h2 : 4500 ≤ bs) (K : ∀ (h' : AH) (n' : Nat) (σ' : CS), n ≤ n' → LI L xs h' n' σ' (N + 12) → SW SR0 ML_law d (bc - 380) (bs - 4500) 1945 [(4, .int (nI i)), (3, .ref 158), (2, .ref 135), (1, .ref 100), (0, .ref 0)] [] h' n' Post) : SW SR0 ML_law d bc bs 420 [(4, .int (nI i)), (3, .ref 158), (2, .ref 135), (1, .ref 100), (0, .ref 0)] [] h n Post := by
  obtain ⟨hR, ⟨th, hQ⟩, hT, hV, ⟨w, s, hO⟩, hs, hn⟩ := hI
  refine sw_aload_n (pc' := 421) rfl dL_law_420 rfl ?_
  refine sw_aload_n (pc' := 422) rfl dL_law_421 rfl ?_
  refine sw_iload (pc' := 424) rfl dL_law_422 rfl ?_
  refine sw_iconst (pc' := 425) (v := 1) rfl dL_law_424 (by decide +kernel) ?_
  refine sw_iadd (pc' := 426) rfl dL_law_425 ?_
  rw [show (nI i) + 1 = nI (i + 1) from nI_add _ _]
  refine sw_iald (j := i + 1) (pc' := 427) rfl dL_law_426 hs rfl (by omega) (by omega) ?_
  refine sw_aload_n (pc' := 428) rfl dL_law_427 rfl ?_
  refine sw_iload (pc' := 430) rfl dL_law_428 rfl ?_
  refine sw_iconst (pc' := 431) (v := 2) rfl dL_law_430 (by decide +kernel) ?_
  refine sw_iadd (pc' := 432) rfl dL_law_431 ?_
  rw [show (nI i) + 2 = nI (i + 2) from nI_add _ _]
  refine sw_iald (j := i + 2) (pc' := 433) rfl dL_law_432 hs rfl (by omega) (by omega) ?_
  refine sw_aload_n (pc' := 434) rfl dL_law_433 rfl ?_
  refine sw_S (M' := ML_pair) (d' := d - 1) (bc' := 60) (bs' := 400) (as := [_, _, _, _]) dL_law_434 w_501 ok_L_pair (L_pair hR hT hV hN hO hn (by omega) (Nat.le_refl _) (Nat.le_refl _)) (by omega) (Nat.le_of_ble_eq_true rfl) (by omega) (by omega) (fun E h' n' _ z => lpo_x z) (lpo_k (fun p pn pw ps pk pR pO pv pF => ?_))
  refine sw_istore (pc' := 439) (lv' := [(5, _), (4, _), (3, _), (2, _), (1, _), (0, _)]) rfl dL_law_437 (by decide +kernel) rfl ?_
  refine sw_aload_n (pc' := 440) rfl dL_law_439 rfl ?_
  refine sw_aload_n (pc' := 441) rfl dL_law_440 rfl ?_
  refine sw_iload (pc' := 443) rfl dL_law_441 rfl ?_
  refine sw_iconst (pc' := 444) (v := 1) rfl dL_law_443 (by decide +kernel) ?_
  refine sw_iadd (pc' := 445) rfl dL_law_444 ?_
  rw [show (nI i) + 1 = nI (i + 1) from nI_add _ _]
  refine sw_iald (j := i + 1) (pc' := 446) rfl dL_law_445 ((pF 0 (by omega) (by omega) (by omega)).trans hs) rfl (by omega) (by omega) ?_
  refine sw_aload_n (pc' := 447) rfl dL_law_446 rfl ?_
  refine sw_iload (pc' := 449) rfl dL_law_447 rfl ?_
  refine sw_iconst (pc' := 450) (v := 2) rfl dL_law_449 (by decide +kernel) ?_
  refine sw_iadd (pc' := 451) rfl dL_law_450 ?_
  rw [show (nI i) + 2 = nI (i + 2) from nI_add _ _]
  refine sw_iald (j := i + 2) (pc' := 452) rfl dL_law_451 ((pF 0 (by omega) (by omega) (by omega)).trans hs) rfl (by omega) (by omega) ?_
  have hQ2 := hQ.fr (fun i a b => pF i (by omega) (by omega) (by omega))
  obtain ⟨ρ, τ, hM, hA⟩ := id hQ2
  refine sw_V (M' := MX5_pair) (d' := d - 1) (bc' := 1) (bs' := 12) (ci := 6) (as := [_, _]) dL_law_452 w_1243 ok_X5_pair (q_pair hQ2 (hV.iv hN) (by omega) (by omega) (Nat.le_refl _) (Nat.le_refl _)) hM.ob rfl (by omega) (Nat.le_of_ble_eq_true rfl) (by omega) (by omega) (fun E h' n' _ z => pmc_x z) (pmc_k ox_pair (fun u un ub uk uv uR uF => ?_))
  refine sw_istore (pc' := 457) (lv' := [(6, _), (5, _), (4, _), (3, _), (2, _), (1, _), (0, _)]) rfl dL_law_455 (by decide +kernel) rfl ?_
  refine sw_goto (tgt := 1945) dL_law_457 (by decide +kernel) ?_
  have J : LI L xs u un (opPair σ (xs (i + 1)) (xs (i + 2))).2 (N + 12) := ⟨pR.frT (fun i hi => uF i (by omega) (by omega)), ⟨_, uR⟩, hT.fr (fun i hi => (uF i (by omega) (by omega)).trans (pF i (by omega) (by omega) (by omega))), iv_pair hV, ⟨_, _, (uF 158 (by omega) (by omega)).trans pO⟩, (uF 0 (by omega) (by omega)).trans ((pF 0 (by omega) (by omega) (by omega)).trans hs), by omega⟩
  exact SW.pick [2, 3, 4, 5, 6] rfl ((K u un _ (by omega) J).bud (by omega) (by omega))
theorem lc_5 {L : Nat} {xs : Nat → Int32} {h : AH} {n i N d bc bs : Nat} {σ : CS} {Post : ARes → AH → Nat → Prop} (hI : LI L xs h n σ N) (hN : N < 2 ^ 31) (hL : L ≤ 3072) (hi : i + 6 ≤ L) (hd : 20 ≤ d) (h1 : 380 ≤ bc) (h2 : 4500 ≤ bs) (K : ∀ (h' : AH) (n' : Nat) (σ' : CS), n ≤ n' → LI L xs h' n' σ' (N + 12) → SW SR0 ML_law d (bc - 380) (bs - 4500) 1945 [(4, .int (nI i)), (3, .ref 158), (2, .ref 135), (1, .ref 100), (0, .ref 0)] [] h' n' Post) : SW SR0 ML_law d bc bs 460 [(4, .int (nI i)), (3, .ref 158), (2, .ref 135), (1, .ref 100), (0, .ref 0)] [] h n Post := by
  obtain ⟨hR, ⟨th, hQ⟩, hT, hV, ⟨w, s, hO⟩, hs, hn⟩ := hI
  refine sw_aload_n (pc' := 461) rfl dL_law_460 rfl ?_
  refine sw_aload_n (pc' := 462) rfl dL_law_461 rfl ?_
  refine sw_iload (pc' := 464) rfl dL_law_462 rfl ?_
  refine sw_iconst (pc' := 465) (v := 1) rfl dL_law_464 (by decide +kernel) ?_
  refine sw_iadd (pc' := 466) rfl dL_law_465 ?_
  rw [show (nI i) + 1 = nI (i + 1) from nI_add _ _]
  refine sw_iald (j := i + 1) (pc' := 467) rfl dL_law_466 hs rfl (by omega) (by omega) ?_
  refine sw_aload_n (pc' := 468) rfl dL_law_467 rfl ?_
  refine sw_iload (pc' := 470) rfl dL_law_468 rfl ?_
  refine sw_iconst (pc' := 471) (v := 2) rfl dL_law_470 (by decide +kernel) ?_
  refine sw_iadd (pc' := 472) rfl dL_law_471 ?_
  rw [show (nI i) + 2 = nI (i + 2) from nI_add _ _]
  refine sw_iald (j := i + 2) (pc' := 473) rfl dL_law_472 hs rfl (by omega) (by omega) ?_
  refine sw_aload_n (pc' := 474) rfl dL_law_473 rfl ?_
  refine sw_S (M' := ML_pour) (d' := d - 1) (bc' := 60) (bs' := 400) (as := [_, _, _, _]) dL_law_474 w_517 ok_L_pour (L_pour hR hT hV hN hO hn (by omega) (Nat.le_refl _) (Nat.le_refl _)) (by omega) (Nat.le_of_ble_eq_true rfl) (by omega) (by omega) (fun E h' n' _ z => lpo_x z) (lpo_k (fun p pn pw ps pk pR pO pv pF => ?_))
  refine sw_istore (pc' := 479) (lv' := [(5, _), (4, _), (3, _), (2, _), (1, _), (0, _)]) rfl dL_law_477 (by decide +kernel) rfl ?_
  refine sw_aload_n (pc' := 480) rfl dL_law_479 rfl ?_
  refine sw_aload_n (pc' := 481) rfl dL_law_480 rfl ?_
  refine sw_iload (pc' := 483) rfl dL_law_481 rfl ?_
  refine sw_iconst (pc' := 484) (v := 1) rfl dL_law_483 (by decide +kernel) ?_
  refine sw_iadd (pc' := 485) rfl dL_law_484 ?_
  rw [show (nI i) + 1 = nI (i + 1) from nI_add _ _]
  refine sw_iald (j := i + 1) (pc' := 486) rfl dL_law_485 ((pF 0 (by omega) (by omega) (by omega)).trans hs) rfl (by omega) (by omega) ?_
  refine sw_aload_n (pc' := 487) rfl dL_law_486 rfl ?_
  refine sw_iload (pc' := 489) rfl dL_law_487 rfl ?_
  refine sw_iconst (pc' := 490) (v := 2) rfl dL_law_489 (by decide +kernel) ?_
  refine sw_iadd (pc' := 491) rfl dL_law_490 ?_
  rw [show (nI i) + 2 = nI (i + 2) from nI_add _ _]
  refine sw_iald (j := i + 2) (pc' := 492) rfl dL_law_491 ((pF 0 (by omega) (by omega) (by omega)).trans hs) rfl (by omega) (by omega) ?_
  have hQ2 := hQ.fr (fun i a b => pF i (by omega) (by omega) (by omega))
  obtain ⟨ρ, τ, hM, hA⟩ := id hQ2
  refine sw_V (M' := MX5_pour) (d' := d - 1) (bc' := 1) (bs' := 12) (ci := 6) (as := [_, _]) dL_law_492 w_1247 ok_X5_pour (q_pour hQ2 (hV.iv hN) (by omega) (by omega) (Nat.le_refl _) (Nat.le_refl _)) hM.ob rfl (by omega) (Nat.le_of_ble_eq_true rfl) (by omega) (by omega) (fun E h' n' _ z => pmc_x z) (pmc_k ox_pour (fun u un ub uk uv uR uF => ?_))
  refine sw_istore (pc' := 497) (lv' := [(6, _), (5, _), (4, _), (3, _), (2, _), (1, _), (0, _)]) rfl dL_law_495 (by decide +kernel) rfl ?_
  refine sw_goto (tgt := 1945) dL_law_497 (by decide +kernel) ?_
  have J : LI L xs u un (opPour σ (xs (i + 1)) (xs (i + 2))).2 (N + 12) := ⟨pR.frT (fun i hi => uF i (by omega) (by omega)), ⟨_, uR⟩, hT.fr (fun i hi => (uF i (by omega) (by omega)).trans (pF i (by omega) (by omega) (by omega))), iv_pour hV, ⟨_, _, (uF 158 (by omega) (by omega)).trans pO⟩, (uF 0 (by omega) (by omega)).trans ((pF 0 (by omega) (by omega) (by omega)).trans hs), by omega⟩
  exact SW.pick [2, 3, 4, 5, 6] rfl ((K u un _ (by omega) J).bud (by omega) (by omega))
theorem lc_6 {L : Nat} {xs : Nat → Int32} {h : AH} {n i N d bc bs : Nat} {σ : CS} {Post : ARes → AH → Nat → Prop} (hI : LI L xs h n σ N) (hN : N < 2 ^ 31) (hL : L ≤ 3072) (hi : i + 6 ≤ L) (hd : 20 ≤ d) (h1 : 380 ≤ bc) (h2 : 4500 ≤ bs) (K : ∀ (h' : AH) (n' : Nat) (σ' : CS), n ≤ n' → LI L xs h' n' σ' (N + 12) → SW SR0 ML_law d (bc - 380) (bs - 4500) 1945 [(4, .int (nI i)), (3, .ref 158), (2, .ref 135), (1, .ref 100), (0, .ref 0)] [] h' n' Post) : SW SR0 ML_law d bc bs 500 [(4, .int (nI i)), (3, .ref 158), (2, .ref 135), (1, .ref 100), (0, .ref 0)] [] h n Post := by
  obtain ⟨hR, ⟨th, hQ⟩, hT, hV, ⟨w, s, hO⟩, hs, hn⟩ := hI
  refine sw_aload_n (pc' := 501) rfl dL_law_500 rfl ?_
  refine sw_aload_n (pc' := 502) rfl dL_law_501 rfl ?_
  refine sw_iload (pc' := 504) rfl dL_law_502 rfl ?_
  refine sw_iconst (pc' := 505) (v := 1) rfl dL_law_504 (by decide +kernel) ?_
  refine sw_iadd (pc' := 506) rfl dL_law_505 ?_
  rw [show (nI i) + 1 = nI (i + 1) from nI_add _ _]
  refine sw_iald (j := i + 1) (pc' := 507) rfl dL_law_506 hs rfl (by omega) (by omega) ?_
  refine sw_aload_n (pc' := 508) rfl dL_law_507 rfl ?_
  refine sw_iload (pc' := 510) rfl dL_law_508 rfl ?_
  refine sw_iconst (pc' := 511) (v := 2) rfl dL_law_510 (by decide +kernel) ?_
  refine sw_iadd (pc' := 512) rfl dL_law_511 ?_
  rw [show (nI i) + 2 = nI (i + 2) from nI_add _ _]
  refine sw_iald (j := i + 2) (pc' := 513) rfl dL_law_512 hs rfl (by omega) (by omega) ?_
  refine sw_aload_n (pc' := 514) rfl dL_law_513 rfl ?_
  refine sw_iload (pc' := 516) rfl dL_law_514 rfl ?_
  refine sw_iconst (pc' := 517) (v := 3) rfl dL_law_516 (by decide +kernel) ?_
  refine sw_iadd (pc' := 518) rfl dL_law_517 ?_
  rw [show (nI i) + 3 = nI (i + 3) from nI_add _ _]
  refine sw_iald (j := i + 3) (pc' := 519) rfl dL_law_518 hs rfl (by omega) (by omega) ?_
  refine sw_aload_n (pc' := 520) rfl dL_law_519 rfl ?_
  refine sw_S (M' := ML_change) (d' := d - 1) (bc' := 60) (bs' := 400) (as := [_, _, _, _, _]) dL_law_520 w_534 ok_L_change (L_change hR hT hV hN hO hn (by omega) (Nat.le_refl _) (Nat.le_refl _)) (by omega) (Nat.le_of_ble_eq_true rfl) (by omega) (by omega) (fun E h' n' _ z => lpo_x z) (lpo_k (fun p pn pw ps pk pR pO pv pF => ?_))
  refine sw_istore (pc' := 525) (lv' := [(5, _), (4, _), (3, _), (2, _), (1, _), (0, _)]) rfl dL_law_523 (by decide +kernel) rfl ?_
  refine sw_aload_n (pc' := 526) rfl dL_law_525 rfl ?_
  refine sw_aload_n (pc' := 527) rfl dL_law_526 rfl ?_
  refine sw_iload (pc' := 529) rfl dL_law_527 rfl ?_
  refine sw_iconst (pc' := 530) (v := 1) rfl dL_law_529 (by decide +kernel) ?_
  refine sw_iadd (pc' := 531) rfl dL_law_530 ?_
  rw [show (nI i) + 1 = nI (i + 1) from nI_add _ _]
  refine sw_iald (j := i + 1) (pc' := 532) rfl dL_law_531 ((pF 0 (by omega) (by omega) (by omega)).trans hs) rfl (by omega) (by omega) ?_
  refine sw_aload_n (pc' := 533) rfl dL_law_532 rfl ?_
  refine sw_iload (pc' := 535) rfl dL_law_533 rfl ?_
  refine sw_iconst (pc' := 536) (v := 2) rfl dL_law_535 (by decide +kernel) ?_
  refine sw_iadd (pc' := 537) rfl dL_law_536 ?_
  rw [show (nI i) + 2 = nI (i + 2) from nI_add _ _]
  refine sw_iald (j := i + 2) (pc' := 538) rfl dL_law_537 ((pF 0 (by omega) (by omega) (by omega)).trans hs) rfl (by omega) (by omega) ?_
  refine sw_aload_n (pc' := 539) rfl dL_law_538 rfl ?_
  refine sw_iload (pc' := 541) rfl dL_law_539 rfl ?_
  refine sw_iconst (pc' := 542) (v := 3) rfl dL_law_541 (by decide +kernel) ?_
  refine sw_iadd (pc' := 543) rfl dL_law_542 ?_
  rw [show (nI i) + 3 = nI (i + 3) from nI_add _ _]
  refine sw_iald (j := i + 3) (pc' := 544) rfl dL_law_543 ((pF 0 (by omega) (by omega) (by omega)).trans hs) rfl (by omega) (by omega) ?_
  have hQ2 := hQ.fr (fun i a b => pF i (by omega) (by omega) (by omega))
  obtain ⟨ρ, τ, hM, hA⟩ := id hQ2
  refine sw_V (M' := MX5_change) (d' := d - 1) (bc' := 1) (bs' := 12) (ci := 6) (as := [_, _, _]) dL_law_544 w_1259 ok_X5_change (q_change hQ2 (hV.iv hN) (by omega) (by omega) (Nat.le_refl _) (Nat.le_refl _)) hM.ob rfl (by omega) (Nat.le_of_ble_eq_true rfl) (by omega) (by omega) (fun E h' n' _ z => pmc_x z) (pmc_k ox_change (fun u un ub uk uv uR uF => ?_))
  refine sw_istore (pc' := 549) (lv' := [(6, _), (5, _), (4, _), (3, _), (2, _), (1, _), (0, _)]) rfl dL_law_547 (by decide +kernel) rfl ?_
  refine sw_goto (tgt := 1945) dL_law_549 (by decide +kernel) ?_
  have J : LI L xs u un (opChange σ (xs (i + 1)) (xs (i + 2)) (xs (i + 3))).2 (N + 12) := ⟨pR.frT (fun i hi => uF i (by omega) (by omega)), ⟨_, uR⟩, hT.fr (fun i hi => (uF i (by omega) (by omega)).trans (pF i (by omega) (by omega) (by omega))), iv_change hV, ⟨_, _, (uF 158 (by omega) (by omega)).trans pO⟩, (uF 0 (by omega) (by omega)).trans ((pF 0 (by omega) (by omega) (by omega)).trans hs), by omega⟩
  exact SW.pick [2, 3, 4, 5, 6] rfl ((K u un _ (by omega) J).bud (by omega) (by omega))
theorem lc_7 {L : Nat} {xs : Nat → Int32} {h : AH} {n i N d bc bs : Nat} {σ : CS} {Post : ARes → AH → Nat → Prop} (hI : LI L xs h n σ N) (hN : N < 2 ^ 31) (hL : L ≤ 3072) (hi : i + 6 ≤ L) (hd : 20 ≤ d) (h1 : 380 ≤ bc) (h2 : 4500 ≤ bs) (K : ∀ (h' : AH) (n' : Nat) (σ' : CS), n ≤ n' → LI L xs h' n' σ' (N + 12) → SW SR0 ML_law d (bc - 380) (bs - 4500) 1945 [(4, .int (nI i)), (3, .ref 158), (2, .ref 135), (1, .ref 100), (0, .ref 0)] [] h' n' Post) : SW SR0 ML_law d bc bs 552 [(4, .int (nI i)), (3, .ref 158), (2, .ref 135), (1, .ref 100), (0, .ref 0)] [] h n Post := by
  obtain ⟨hR, ⟨th, hQ⟩, hT, hV, ⟨w, s, hO⟩, hs, hn⟩ := hI
  refine sw_aload_n (pc' := 553) rfl dL_law_552 rfl ?_
  refine sw_aload_n (pc' := 554) rfl dL_law_553 rfl ?_
  refine sw_iload (pc' := 556) rfl dL_law_554 rfl ?_
  refine sw_iconst (pc' := 557) (v := 1) rfl dL_law_556 (by decide +kernel) ?_
  refine sw_iadd (pc' := 558) rfl dL_law_557 ?_
  rw [show (nI i) + 1 = nI (i + 1) from nI_add _ _]
  refine sw_iald (j := i + 1) (pc' := 559) rfl dL_law_558 hs rfl (by omega) (by omega) ?_
  refine sw_aload_n (pc' := 560) rfl dL_law_559 rfl ?_
  refine sw_iload (pc' := 562) rfl dL_law_560 rfl ?_
  refine sw_iconst (pc' := 563) (v := 2) rfl dL_law_562 (by decide +kernel) ?_
  refine sw_iadd (pc' := 564) rfl dL_law_563 ?_
  rw [show (nI i) + 2 = nI (i + 2) from nI_add _ _]
  refine sw_iald (j := i + 2) (pc' := 565) rfl dL_law_564 hs rfl (by omega) (by omega) ?_
  refine sw_aload_n (pc' := 566) rfl dL_law_565 rfl ?_
  refine sw_iload (pc' := 568) rfl dL_law_566 rfl ?_
  refine sw_iconst (pc' := 569) (v := 3) rfl dL_law_568 (by decide +kernel) ?_
  refine sw_iadd (pc' := 570) rfl dL_law_569 ?_
  rw [show (nI i) + 3 = nI (i + 3) from nI_add _ _]
  refine sw_iald (j := i + 3) (pc' := 571) rfl dL_law_570 hs rfl (by omega) (by omega) ?_
  refine sw_aload_n (pc' := 572) rfl dL_law_571 rfl ?_
  refine sw_S (M' := ML_insert) (d' := d - 1) (bc' := 60) (bs' := 400) (as := [_, _, _, _, _]) dL_law_572 w_550 ok_L_insert (L_insert hR hT hV hN hO hn (by omega) (Nat.le_refl _) (Nat.le_refl _)) (by omega) (Nat.le_of_ble_eq_true rfl) (by omega) (by omega) (fun E h' n' _ z => lpo_x z) (lpo_k (fun p pn pw ps pk pR pO pv pF => ?_))
  refine sw_istore (pc' := 577) (lv' := [(5, _), (4, _), (3, _), (2, _), (1, _), (0, _)]) rfl dL_law_575 (by decide +kernel) rfl ?_
  refine sw_aload_n (pc' := 578) rfl dL_law_577 rfl ?_
  refine sw_aload_n (pc' := 579) rfl dL_law_578 rfl ?_
  refine sw_iload (pc' := 581) rfl dL_law_579 rfl ?_
  refine sw_iconst (pc' := 582) (v := 1) rfl dL_law_581 (by decide +kernel) ?_
  refine sw_iadd (pc' := 583) rfl dL_law_582 ?_
  rw [show (nI i) + 1 = nI (i + 1) from nI_add _ _]
  refine sw_iald (j := i + 1) (pc' := 584) rfl dL_law_583 ((pF 0 (by omega) (by omega) (by omega)).trans hs) rfl (by omega) (by omega) ?_
  refine sw_aload_n (pc' := 585) rfl dL_law_584 rfl ?_
  refine sw_iload (pc' := 587) rfl dL_law_585 rfl ?_
  refine sw_iconst (pc' := 588) (v := 2) rfl dL_law_587 (by decide +kernel) ?_
  refine sw_iadd (pc' := 589) rfl dL_law_588 ?_
  rw [show (nI i) + 2 = nI (i + 2) from nI_add _ _]
  refine sw_iald (j := i + 2) (pc' := 590) rfl dL_law_589 ((pF 0 (by omega) (by omega) (by omega)).trans hs) rfl (by omega) (by omega) ?_
  refine sw_aload_n (pc' := 591) rfl dL_law_590 rfl ?_
  refine sw_iload (pc' := 593) rfl dL_law_591 rfl ?_
  refine sw_iconst (pc' := 594) (v := 3) rfl dL_law_593 (by decide +kernel) ?_
  refine sw_iadd (pc' := 595) rfl dL_law_594 ?_
  rw [show (nI i) + 3 = nI (i + 3) from nI_add _ _]
  refine sw_iald (j := i + 3) (pc' := 596) rfl dL_law_595 ((pF 0 (by omega) (by omega) (by omega)).trans hs) rfl (by omega) (by omega) ?_
  have hQ2 := hQ.fr (fun i a b => pF i (by omega) (by omega) (by omega))
  obtain ⟨ρ, τ, hM, hA⟩ := id hQ2
  refine sw_V (M' := MX5_insert) (d' := d - 1) (bc' := 1) (bs' := 12) (ci := 6) (as := [_, _, _]) dL_law_596 w_1270 ok_X5_insert (q_insert hQ2 (hV.iv hN) (by omega) (by omega) (Nat.le_refl _) (Nat.le_refl _)) hM.ob rfl (by omega) (Nat.le_of_ble_eq_true rfl) (by omega) (by omega) (fun E h' n' _ z => pmc_x z) (pmc_k ox_insert (fun u un ub uk uv uR uF => ?_))
  refine sw_istore (pc' := 601) (lv' := [(6, _), (5, _), (4, _), (3, _), (2, _), (1, _), (0, _)]) rfl dL_law_599 (by decide +kernel) rfl ?_
  refine sw_goto (tgt := 1945) dL_law_601 (by decide +kernel) ?_
  have J : LI L xs u un (opInsert σ (xs (i + 1)) (xs (i + 2)) (xs (i + 3))).2 (N + 12) := ⟨pR.frT (fun i hi => uF i (by omega) (by omega)), ⟨_, uR⟩, hT.fr (fun i hi => (uF i (by omega) (by omega)).trans (pF i (by omega) (by omega) (by omega))), iv_insert hV, ⟨_, _, (uF 158 (by omega) (by omega)).trans pO⟩, (uF 0 (by omega) (by omega)).trans ((pF 0 (by omega) (by omega) (by omega)).trans hs), by omega⟩
  exact SW.pick [2, 3, 4, 5, 6] rfl ((K u un _ (by omega) J).bud (by omega) (by omega))
theorem lc_8 {L : Nat} {xs : Nat → Int32} {h : AH} {n i N d bc bs : Nat} {σ : CS} {Post : ARes → AH → Nat → Prop} (hI : LI L xs h n σ N) (hN : N < 2 ^ 31) (hL : L ≤ 3072) (hi : i + 6 ≤ L) (hd : 20 ≤ d) (h1 : 380 ≤ bc) (h2 : 4500 ≤ bs) (K : ∀ (h' : AH) (n' : Nat) (σ' : CS), n ≤ n' → LI L xs h' n' σ' (N + 12) → SW SR0 ML_law d (bc - 380) (bs - 4500) 1945 [(4, .int (nI i)), (3, .ref 158), (2, .ref 135), (1, .ref 100), (0, .ref 0)] [] h' n' Post) : SW SR0 ML_law d bc bs 604 [(4, .int (nI i)), (3, .ref 158), (2, .ref 135), (1, .ref 100), (0, .ref 0)] [] h n Post := by
  obtain ⟨hR, ⟨th, hQ⟩, hT, hV, ⟨w, s, hO⟩, hs, hn⟩ := hI
  refine sw_aload_n (pc' := 605) rfl dL_law_604 rfl ?_
  refine sw_aload_n (pc' := 606) rfl dL_law_605 rfl ?_
  refine sw_iload (pc' := 608) rfl dL_law_606 rfl ?_
  refine sw_iconst (pc' := 609) (v := 1) rfl dL_law_608 (by decide +kernel) ?_
  refine sw_iadd (pc' := 610) rfl dL_law_609 ?_
  rw [show (nI i) + 1 = nI (i + 1) from nI_add _ _]
  refine sw_iald (j := i + 1) (pc' := 611) rfl dL_law_610 hs rfl (by omega) (by omega) ?_
  refine sw_aload_n (pc' := 612) rfl dL_law_611 rfl ?_
  refine sw_iload (pc' := 614) rfl dL_law_612 rfl ?_
  refine sw_iconst (pc' := 615) (v := 2) rfl dL_law_614 (by decide +kernel) ?_
  refine sw_iadd (pc' := 616) rfl dL_law_615 ?_
  rw [show (nI i) + 2 = nI (i + 2) from nI_add _ _]
  refine sw_iald (j := i + 2) (pc' := 617) rfl dL_law_616 hs rfl (by omega) (by omega) ?_
  refine sw_aload_n (pc' := 618) rfl dL_law_617 rfl ?_
  refine sw_S (M' := ML_remove) (d' := d - 1) (bc' := 60) (bs' := 400) (as := [_, _, _, _]) dL_law_618 w_557 ok_L_remove (L_remove hR hT hV hN hO hn (by omega) (Nat.le_refl _) (Nat.le_refl _)) (by omega) (Nat.le_of_ble_eq_true rfl) (by omega) (by omega) (fun E h' n' _ z => lpo_x z) (lpo_k (fun p pn pw ps pk pR pO pv pF => ?_))
  refine sw_istore (pc' := 623) (lv' := [(5, _), (4, _), (3, _), (2, _), (1, _), (0, _)]) rfl dL_law_621 (by decide +kernel) rfl ?_
  refine sw_aload_n (pc' := 624) rfl dL_law_623 rfl ?_
  refine sw_aload_n (pc' := 625) rfl dL_law_624 rfl ?_
  refine sw_iload (pc' := 627) rfl dL_law_625 rfl ?_
  refine sw_iconst (pc' := 628) (v := 1) rfl dL_law_627 (by decide +kernel) ?_
  refine sw_iadd (pc' := 629) rfl dL_law_628 ?_
  rw [show (nI i) + 1 = nI (i + 1) from nI_add _ _]
  refine sw_iald (j := i + 1) (pc' := 630) rfl dL_law_629 ((pF 0 (by omega) (by omega) (by omega)).trans hs) rfl (by omega) (by omega) ?_
  refine sw_aload_n (pc' := 631) rfl dL_law_630 rfl ?_
  refine sw_iload (pc' := 633) rfl dL_law_631 rfl ?_
  refine sw_iconst (pc' := 634) (v := 2) rfl dL_law_633 (by decide +kernel) ?_
  refine sw_iadd (pc' := 635) rfl dL_law_634 ?_
  rw [show (nI i) + 2 = nI (i + 2) from nI_add _ _]
  refine sw_iald (j := i + 2) (pc' := 636) rfl dL_law_635 ((pF 0 (by omega) (by omega) (by omega)).trans hs) rfl (by omega) (by omega) ?_
  have hQ2 := hQ.fr (fun i a b => pF i (by omega) (by omega) (by omega))
  obtain ⟨ρ, τ, hM, hA⟩ := id hQ2
  refine sw_V (M' := MX5_remove) (d' := d - 1) (bc' := 1) (bs' := 12) (ci := 6) (as := [_, _]) dL_law_636 w_1274 ok_X5_remove (q_remove hQ2 (hV.iv hN) (by omega) (by omega) (Nat.le_refl _) (Nat.le_refl _)) hM.ob rfl (by omega) (Nat.le_of_ble_eq_true rfl) (by omega) (by omega) (fun E h' n' _ z => pmc_x z) (pmc_k ox_remove (fun u un ub uk uv uR uF => ?_))
  refine sw_istore (pc' := 641) (lv' := [(6, _), (5, _), (4, _), (3, _), (2, _), (1, _), (0, _)]) rfl dL_law_639 (by decide +kernel) rfl ?_
  refine sw_goto (tgt := 1945) dL_law_641 (by decide +kernel) ?_
  have J : LI L xs u un (opRemove σ (xs (i + 1)) (xs (i + 2))).2 (N + 12) := ⟨pR.frT (fun i hi => uF i (by omega) (by omega)), ⟨_, uR⟩, hT.fr (fun i hi => (uF i (by omega) (by omega)).trans (pF i (by omega) (by omega) (by omega))), iv_remove hV, ⟨_, _, (uF 158 (by omega) (by omega)).trans pO⟩, (uF 0 (by omega) (by omega)).trans ((pF 0 (by omega) (by omega) (by omega)).trans hs), by omega⟩
  exact SW.pick [2, 3, 4, 5, 6] rfl ((K u un _ (by omega) J).bud (by omega) (by omega))
theorem lc_9 {L : Nat} {xs : Nat → Int32} {h : AH} {n i N d bc bs : Nat} {σ : CS} {Post : ARes → AH → Nat → Prop} (hI : LI L xs h n σ N) (hN : N < 2 ^ 31) (hL : L ≤ 3072) (hi : i + 6 ≤ L) (hd : 20 ≤ d) (h1 : 380 ≤ bc) (h2 : 4500 ≤ bs) (K : ∀ (h' : AH) (n' : Nat) (σ' : CS), n ≤ n' → LI L xs h' n' σ' (N + 12) → SW SR0 ML_law d (bc - 380) (bs - 4500) 1945 [(4, .int (nI i)), (3, .ref 158), (2, .ref 135), (1, .ref 100), (0, .ref 0)] [] h' n' Post) : SW SR0 ML_law d bc bs 644 [(4, .int (nI i)), (3, .ref 158), (2, .ref 135), (1, .ref 100), (0, .ref 0)] [] h n Post := by
  obtain ⟨hR, ⟨th, hQ⟩, hT, hV, ⟨w, s, hO⟩, hs, hn⟩ := hI
  refine sw_aload_n (pc' := 645) rfl dL_law_644 rfl ?_
  refine sw_aload_n (pc' := 646) rfl dL_law_645 rfl ?_
  refine sw_iload (pc' := 648) rfl dL_law_646 rfl ?_
  refine sw_iconst (pc' := 649) (v := 1) rfl dL_law_648 (by decide +kernel) ?_
  refine sw_iadd (pc' := 650) rfl dL_law_649 ?_
  rw [show (nI i) + 1 = nI (i + 1) from nI_add _ _]
  refine sw_iald (j := i + 1) (pc' := 651) rfl dL_law_650 hs rfl (by omega) (by omega) ?_
  refine sw_aload_n (pc' := 652) rfl dL_law_651 rfl ?_
  refine sw_S (M' := ML_turn) (d' := d - 1) (bc' := 60) (bs' := 400) (as := [_, _, _]) dL_law_652 w_564 ok_L_turn (L_turn hR hT hV hN hO hn (by omega) (Nat.le_refl _) (Nat.le_refl _)) (by omega) (Nat.le_of_ble_eq_true rfl) (by omega) (by omega) (fun E h' n' _ z => lpo_x z) (lpo_k (fun p pn pw ps pk pR pO pv pF => ?_))
  refine sw_istore (pc' := 657) (lv' := [(5, _), (4, _), (3, _), (2, _), (1, _), (0, _)]) rfl dL_law_655 (by decide +kernel) rfl ?_
  refine sw_aload_n (pc' := 658) rfl dL_law_657 rfl ?_
  refine sw_aload_n (pc' := 659) rfl dL_law_658 rfl ?_
  refine sw_iload (pc' := 661) rfl dL_law_659 rfl ?_
  refine sw_iconst (pc' := 662) (v := 1) rfl dL_law_661 (by decide +kernel) ?_
  refine sw_iadd (pc' := 663) rfl dL_law_662 ?_
  rw [show (nI i) + 1 = nI (i + 1) from nI_add _ _]
  refine sw_iald (j := i + 1) (pc' := 664) rfl dL_law_663 ((pF 0 (by omega) (by omega) (by omega)).trans hs) rfl (by omega) (by omega) ?_
  have hQ2 := hQ.fr (fun i a b => pF i (by omega) (by omega) (by omega))
  obtain ⟨ρ, τ, hM, hA⟩ := id hQ2
  refine sw_V (M' := MX5_turn) (d' := d - 1) (bc' := 1) (bs' := 12) (ci := 6) (as := [_]) dL_law_664 w_1278 ok_X5_turn (q_turn hQ2 (hV.iv hN) (by omega) (by omega) (Nat.le_refl _) (Nat.le_refl _)) hM.ob rfl (by omega) (Nat.le_of_ble_eq_true rfl) (by omega) (by omega) (fun E h' n' _ z => pmc_x z) (pmc_k ox_turn (fun u un ub uk uv uR uF => ?_))
  refine sw_istore (pc' := 669) (lv' := [(6, _), (5, _), (4, _), (3, _), (2, _), (1, _), (0, _)]) rfl dL_law_667 (by decide +kernel) rfl ?_
  refine sw_goto (tgt := 1945) dL_law_669 (by decide +kernel) ?_
  have J : LI L xs u un (opTurn σ (xs (i + 1))).2 (N + 12) := ⟨pR.frT (fun i hi => uF i (by omega) (by omega)), ⟨_, uR⟩, hT.fr (fun i hi => (uF i (by omega) (by omega)).trans (pF i (by omega) (by omega) (by omega))), iv_turn hV, ⟨_, _, (uF 158 (by omega) (by omega)).trans pO⟩, (uF 0 (by omega) (by omega)).trans ((pF 0 (by omega) (by omega) (by omega)).trans hs), by omega⟩
  exact SW.pick [2, 3, 4, 5, 6] rfl ((K u un _ (by omega) J).bud (by omega) (by omega))
theorem lc_10 {L : Nat} {xs : Nat → Int32} {h : AH} {n i N d bc bs : Nat} {σ : CS} {Post : ARes → AH → Nat → Prop} (hI : LI L xs h n σ N) (hN : N < 2 ^ 31) (hL : L ≤ 3072) (hi : i + 6 ≤ L) (hd : 20 ≤ d) (h1 : 380 ≤ bc) (h2 : 4500 ≤ bs) (K : ∀ (h' : AH) (n' : Nat) (σ' : CS), n ≤ n' → LI L xs h' n' σ' (N + 12) → SW SR0 ML_law d (bc - 380) (bs - 4500) 1945 [(4, .int (nI i)), (3, .ref 158), (2, .ref 135), (1, .ref 100), (0, .ref 0)] [] h' n' Post) : SW SR0 ML_law d bc bs 672 [(4, .int (nI i)), (3, .ref 158), (2, .ref 135), (1, .ref 100), (0, .ref 0)] [] h n Post := by
  obtain ⟨hR, ⟨th, hQ⟩, hT, hV, ⟨w, s, hO⟩, hs, hn⟩ := hI
  refine sw_aload_n (pc' := 673) rfl dL_law_672 rfl ?_
  refine sw_aload_n (pc' := 674) rfl dL_law_673 rfl ?_
  refine sw_iload (pc' := 676) rfl dL_law_674 rfl ?_
  refine sw_iconst (pc' := 677) (v := 1) rfl dL_law_676 (by decide +kernel) ?_
  refine sw_iadd (pc' := 678) rfl dL_law_677 ?_
  rw [show (nI i) + 1 = nI (i + 1) from nI_add _ _]
  refine sw_iald (j := i + 1) (pc' := 679) rfl dL_law_678 hs rfl (by omega) (by omega) ?_
  refine sw_aload_n (pc' := 680) rfl dL_law_679 rfl ?_
  refine sw_iload (pc' := 682) rfl dL_law_680 rfl ?_
  refine sw_iconst (pc' := 683) (v := 2) rfl dL_law_682 (by decide +kernel) ?_
  refine sw_iadd (pc' := 684) rfl dL_law_683 ?_
  rw [show (nI i) + 2 = nI (i + 2) from nI_add _ _]
  refine sw_iald (j := i + 2) (pc' := 685) rfl dL_law_684 hs rfl (by omega) (by omega) ?_
  refine sw_aload_n (pc' := 686) rfl dL_law_685 rfl ?_
  refine sw_S (M' := ML_rotate) (d' := d - 1) (bc' := 60) (bs' := 400) (as := [_, _, _, _]) dL_law_686 w_576 ok_L_rotate (L_rotate hR hT hV hN hO hn (by omega) (Nat.le_refl _) (Nat.le_refl _)) (by omega) (Nat.le_of_ble_eq_true rfl) (by omega) (by omega) (fun E h' n' _ z => lpo_x z) (lpo_k (fun p pn pw ps pk pR pO pv pF => ?_))
  refine sw_istore (pc' := 691) (lv' := [(5, _), (4, _), (3, _), (2, _), (1, _), (0, _)]) rfl dL_law_689 (by decide +kernel) rfl ?_
  refine sw_aload_n (pc' := 692) rfl dL_law_691 rfl ?_
  refine sw_aload_n (pc' := 693) rfl dL_law_692 rfl ?_
  refine sw_iload (pc' := 695) rfl dL_law_693 rfl ?_
  refine sw_iconst (pc' := 696) (v := 1) rfl dL_law_695 (by decide +kernel) ?_
  refine sw_iadd (pc' := 697) rfl dL_law_696 ?_
  rw [show (nI i) + 1 = nI (i + 1) from nI_add _ _]
  refine sw_iald (j := i + 1) (pc' := 698) rfl dL_law_697 ((pF 0 (by omega) (by omega) (by omega)).trans hs) rfl (by omega) (by omega) ?_
  refine sw_aload_n (pc' := 699) rfl dL_law_698 rfl ?_
  refine sw_iload (pc' := 701) rfl dL_law_699 rfl ?_
  refine sw_iconst (pc' := 702) (v := 2) rfl dL_law_701 (by decide +kernel) ?_
  refine sw_iadd (pc' := 703) rfl dL_law_702 ?_
  rw [show (nI i) + 2 = nI (i + 2) from nI_add _ _]
  refine sw_iald (j := i + 2) (pc' := 704) rfl dL_law_703 ((pF 0 (by omega) (by omega) (by omega)).trans hs) rfl (by omega) (by omega) ?_
  have hQ2 := hQ.fr (fun i a b => pF i (by omega) (by omega) (by omega))
  obtain ⟨ρ, τ, hM, hA⟩ := id hQ2
  refine sw_V (M' := MX5_rotate) (d' := d - 1) (bc' := 1) (bs' := 12) (ci := 6) (as := [_, _]) dL_law_704 w_1282 ok_X5_rotate (q_rotate hQ2 (hV.iv hN) (by omega) (by omega) (Nat.le_refl _) (Nat.le_refl _)) hM.ob rfl (by omega) (Nat.le_of_ble_eq_true rfl) (by omega) (by omega) (fun E h' n' _ z => pmc_x z) (pmc_k ox_rotate (fun u un ub uk uv uR uF => ?_))
  refine sw_istore (pc' := 709) (lv' := [(6, _), (5, _), (4, _), (3, _), (2, _), (1, _), (0, _)]) rfl dL_law_707 (by decide +kernel) rfl ?_
  refine sw_goto (tgt := 1945) dL_law_709 (by decide +kernel) ?_
  have J : LI L xs u un (opRotate σ (xs (i + 1)) (xs (i + 2))).2 (N + 12) := ⟨pR.frT (fun i hi => uF i (by omega) (by omega)), ⟨_, uR⟩, hT.fr (fun i hi => (uF i (by omega) (by omega)).trans (pF i (by omega) (by omega) (by omega))), iv_rotate hV, ⟨_, _, (uF 158 (by omega) (by omega)).trans pO⟩, (uF 0 (by omega) (by omega)).trans ((pF 0 (by omega) (by omega) (by omega)).trans hs), by omega⟩
  exact SW.pick [2, 3, 4, 5, 6] rfl ((K u un _ (by omega) J).bud (by omega) (by omega))
theorem lc_11 {L : Nat} {xs : Nat → Int32} {h : AH} {n i N d bc bs : Nat} {σ : CS} {Post : ARes → AH → Nat → Prop} (hI : LI L xs h n σ N) (hN : N < 2 ^ 31) (hL : L ≤ 3072) (hi : i + 6 ≤ L) (hd : 20 ≤ d) (h1 : 380 ≤ bc) (h2 : 4500 ≤ bs) (K : ∀ (h' : AH) (n' : Nat) (σ' : CS), n ≤ n' → LI L xs h' n' σ' (N + 12) → SW SR0 ML_law d (bc - 380) (bs - 4500) 1945 [(4, .int (nI i)), (3, .ref 158), (2, .ref 135), (1, .ref 100), (0, .ref 0)] [] h' n' Post) : SW SR0 ML_law d bc bs 712 [(4, .int (nI i)), (3, .ref 158), (2, .ref 135), (1, .ref 100), (0, .ref 0)] [] h n Post := by
  obtain ⟨hR, ⟨th, hQ⟩, hT, hV, ⟨w, s, hO⟩, hs, hn⟩ := hI
  refine sw_aload_n (pc' := 713) rfl dL_law_712 rfl ?_
  refine sw_aload_n (pc' := 714) rfl dL_law_713 rfl ?_
  refine sw_iload (pc' := 716) rfl dL_law_714 rfl ?_
  refine sw_iconst (pc' := 717) (v := 1) rfl dL_law_716 (by decide +kernel) ?_
  refine sw_iadd (pc' := 718) rfl dL_law_717 ?_
  rw [show (nI i) + 1 = nI (i + 1) from nI_add _ _]
  refine sw_iald (j := i + 1) (pc' := 719) rfl dL_law_718 hs rfl (by omega) (by omega) ?_
  refine sw_aload_n (pc' := 720) rfl dL_law_719 rfl ?_
  refine sw_iload (pc' := 722) rfl dL_law_720 rfl ?_
  refine sw_iconst (pc' := 723) (v := 2) rfl dL_law_722 (by decide +kernel) ?_
  refine sw_iadd (pc' := 724) rfl dL_law_723 ?_
  rw [show (nI i) + 2 = nI (i + 2) from nI_add _ _]
  refine sw_iald (j := i + 2) (pc' := 725) rfl dL_law_724 hs rfl (by omega) (by omega) ?_
  refine sw_aload_n (pc' := 726) rfl dL_law_725 rfl ?_
  refine sw_iload (pc' := 728) rfl dL_law_726 rfl ?_
  refine sw_iconst (pc' := 729) (v := 3) rfl dL_law_728 (by decide +kernel) ?_
  refine sw_iadd (pc' := 730) rfl dL_law_729 ?_
  rw [show (nI i) + 3 = nI (i + 3) from nI_add _ _]
  refine sw_iald (j := i + 3) (pc' := 731) rfl dL_law_730 hs rfl (by omega) (by omega) ?_
  refine sw_aload_n (pc' := 732) rfl dL_law_731 rfl ?_
  refine sw_S (M' := ML_swap) (d' := d - 1) (bc' := 60) (bs' := 400) (as := [_, _, _, _, _]) dL_law_732 w_592 ok_L_swap (L_swap hR hT hV hN hO hn (by omega) (Nat.le_refl _) (Nat.le_refl _)) (by omega) (Nat.le_of_ble_eq_true rfl) (by omega) (by omega) (fun E h' n' _ z => lpo_x z) (lpo_k (fun p pn pw ps pk pR pO pv pF => ?_))
  refine sw_istore (pc' := 737) (lv' := [(5, _), (4, _), (3, _), (2, _), (1, _), (0, _)]) rfl dL_law_735 (by decide +kernel) rfl ?_
  refine sw_aload_n (pc' := 738) rfl dL_law_737 rfl ?_
  refine sw_aload_n (pc' := 739) rfl dL_law_738 rfl ?_
  refine sw_iload (pc' := 741) rfl dL_law_739 rfl ?_
  refine sw_iconst (pc' := 742) (v := 1) rfl dL_law_741 (by decide +kernel) ?_
  refine sw_iadd (pc' := 743) rfl dL_law_742 ?_
  rw [show (nI i) + 1 = nI (i + 1) from nI_add _ _]
  refine sw_iald (j := i + 1) (pc' := 744) rfl dL_law_743 ((pF 0 (by omega) (by omega) (by omega)).trans hs) rfl (by omega) (by omega) ?_
  refine sw_aload_n (pc' := 745) rfl dL_law_744 rfl ?_
  refine sw_iload (pc' := 747) rfl dL_law_745 rfl ?_
  refine sw_iconst (pc' := 748) (v := 2) rfl dL_law_747 (by decide +kernel) ?_
  refine sw_iadd (pc' := 749) rfl dL_law_748 ?_
  rw [show (nI i) + 2 = nI (i + 2) from nI_add _ _]
  refine sw_iald (j := i + 2) (pc' := 750) rfl dL_law_749 ((pF 0 (by omega) (by omega) (by omega)).trans hs) rfl (by omega) (by omega) ?_
  refine sw_aload_n (pc' := 751) rfl dL_law_750 rfl ?_
  refine sw_iload (pc' := 753) rfl dL_law_751 rfl ?_
  refine sw_iconst (pc' := 754) (v := 3) rfl dL_law_753 (by decide +kernel) ?_
  refine sw_iadd (pc' := 755) rfl dL_law_754 ?_
  rw [show (nI i) + 3 = nI (i + 3) from nI_add _ _]
  refine sw_iald (j := i + 3) (pc' := 756) rfl dL_law_755 ((pF 0 (by omega) (by omega) (by omega)).trans hs) rfl (by omega) (by omega) ?_
  have hQ2 := hQ.fr (fun i a b => pF i (by omega) (by omega) (by omega))
  obtain ⟨ρ, τ, hM, hA⟩ := id hQ2
  refine sw_V (M' := MX5_swap) (d' := d - 1) (bc' := 1) (bs' := 12) (ci := 6) (as := [_, _, _]) dL_law_756 w_1286 ok_X5_swap (q_swap hQ2 (hV.iv hN) (by omega) (by omega) (Nat.le_refl _) (Nat.le_refl _)) hM.ob rfl (by omega) (Nat.le_of_ble_eq_true rfl) (by omega) (by omega) (fun E h' n' _ z => pmc_x z) (pmc_k ox_swap (fun u un ub uk uv uR uF => ?_))
  refine sw_istore (pc' := 761) (lv' := [(6, _), (5, _), (4, _), (3, _), (2, _), (1, _), (0, _)]) rfl dL_law_759 (by decide +kernel) rfl ?_
  refine sw_goto (tgt := 1945) dL_law_761 (by decide +kernel) ?_
  have J : LI L xs u un (opSwap σ (xs (i + 1)) (xs (i + 2)) (xs (i + 3))).2 (N + 12) := ⟨pR.frT (fun i hi => uF i (by omega) (by omega)), ⟨_, uR⟩, hT.fr (fun i hi => (uF i (by omega) (by omega)).trans (pF i (by omega) (by omega) (by omega))), iv_swap hV, ⟨_, _, (uF 158 (by omega) (by omega)).trans pO⟩, (uF 0 (by omega) (by omega)).trans ((pF 0 (by omega) (by omega) (by omega)).trans hs), by omega⟩
  exact SW.pick [2, 3, 4, 5, 6] rfl ((K u un _ (by omega) J).bud (by omega) (by omega))
theorem lc_12 {L : Nat} {xs : Nat → Int32} {h : AH} {n i N d bc bs : Nat} {σ : CS} {Post : ARes → AH → Nat → Prop} (hI : LI L xs h n σ N) (hN : N < 2 ^ 31) (hL : L ≤ 3072) (hi : i + 6 ≤ L) (hd : 20 ≤ d) (h1 : 380 ≤ bc) (h2 : 4500 ≤ bs) (K : ∀ (h' : AH) (n' : Nat) (σ' : CS), n ≤ n' → LI L xs h' n' σ' (N + 12) → SW SR0 ML_law d (bc - 380) (bs - 4500) 1945 [(4, .int (nI i)), (3, .ref 158), (2, .ref 135), (1, .ref 100), (0, .ref 0)] [] h' n' Post) : SW SR0 ML_law d bc bs 764 [(4, .int (nI i)), (3, .ref 158), (2, .ref 135), (1, .ref 100), (0, .ref 0)] [] h n Post := by
  obtain ⟨hR, ⟨th, hQ⟩, hT, hV, ⟨w, s, hO⟩, hs, hn⟩ := hI
  refine sw_aload_n (pc' := 765) rfl dL_law_764 rfl ?_
  refine sw_aload_n (pc' := 766) rfl dL_law_765 rfl ?_
  refine sw_iload (pc' := 768) rfl dL_law_766 rfl ?_
  refine sw_iconst (pc' := 769) (v := 1) rfl dL_law_768 (by decide +kernel) ?_
  refine sw_iadd (pc' := 770) rfl dL_law_769 ?_
  rw [show (nI i) + 1 = nI (i + 1) from nI_add _ _]
  refine sw_iald (j := i + 1) (pc' := 771) rfl dL_law_770 hs rfl (by omega) (by omega) ?_
  refine sw_aload_n (pc' := 772) rfl dL_law_771 rfl ?_
  refine sw_iload (pc' := 774) rfl dL_law_772 rfl ?_
  refine sw_iconst (pc' := 775) (v := 2) rfl dL_law_774 (by decide +kernel) ?_
  refine sw_iadd (pc' := 776) rfl dL_law_775 ?_
  rw [show (nI i) + 2 = nI (i + 2) from nI_add _ _]
  refine sw_iald (j := i + 2) (pc' := 777) rfl dL_law_776 hs rfl (by omega) (by omega) ?_
  refine sw_aload_n (pc' := 778) rfl dL_law_777 rfl ?_
  refine sw_S (M' := ML_fill) (d' := d - 1) (bc' := 60) (bs' := 400) (as := [_, _, _, _]) dL_law_778 w_599 ok_L_fill (L_fill hR hT hV hN hO hn (by omega) (Nat.le_refl _) (Nat.le_refl _)) (by omega) (Nat.le_of_ble_eq_true rfl) (by omega) (by omega) (fun E h' n' _ z => lpo_x z) (lpo_k (fun p pn pw ps pk pR pO pv pF => ?_))
  refine sw_istore (pc' := 783) (lv' := [(5, _), (4, _), (3, _), (2, _), (1, _), (0, _)]) rfl dL_law_781 (by decide +kernel) rfl ?_
  refine sw_aload_n (pc' := 784) rfl dL_law_783 rfl ?_
  refine sw_aload_n (pc' := 785) rfl dL_law_784 rfl ?_
  refine sw_iload (pc' := 787) rfl dL_law_785 rfl ?_
  refine sw_iconst (pc' := 788) (v := 1) rfl dL_law_787 (by decide +kernel) ?_
  refine sw_iadd (pc' := 789) rfl dL_law_788 ?_
  rw [show (nI i) + 1 = nI (i + 1) from nI_add _ _]
  refine sw_iald (j := i + 1) (pc' := 790) rfl dL_law_789 ((pF 0 (by omega) (by omega) (by omega)).trans hs) rfl (by omega) (by omega) ?_
  refine sw_aload_n (pc' := 791) rfl dL_law_790 rfl ?_
  refine sw_iload (pc' := 793) rfl dL_law_791 rfl ?_
  refine sw_iconst (pc' := 794) (v := 2) rfl dL_law_793 (by decide +kernel) ?_
  refine sw_iadd (pc' := 795) rfl dL_law_794 ?_
  rw [show (nI i) + 2 = nI (i + 2) from nI_add _ _]
  refine sw_iald (j := i + 2) (pc' := 796) rfl dL_law_795 ((pF 0 (by omega) (by omega) (by omega)).trans hs) rfl (by omega) (by omega) ?_
  have hQ2 := hQ.fr (fun i a b => pF i (by omega) (by omega) (by omega))
  obtain ⟨ρ, τ, hM, hA⟩ := id hQ2
  refine sw_V (M' := MX5_fill) (d' := d - 1) (bc' := 1) (bs' := 12) (ci := 6) (as := [_, _]) dL_law_796 w_1290 ok_X5_fill (q_fill hQ2 (hV.iv hN) (by omega) (by omega) (Nat.le_refl _) (Nat.le_refl _)) hM.ob rfl (by omega) (Nat.le_of_ble_eq_true rfl) (by omega) (by omega) (fun E h' n' _ z => pmc_x z) (pmc_k ox_fill (fun u un ub uk uv uR uF => ?_))
  refine sw_istore (pc' := 801) (lv' := [(6, _), (5, _), (4, _), (3, _), (2, _), (1, _), (0, _)]) rfl dL_law_799 (by decide +kernel) rfl ?_
  refine sw_goto (tgt := 1945) dL_law_801 (by decide +kernel) ?_
  have J : LI L xs u un (opFill σ (xs (i + 1)) (xs (i + 2))).2 (N + 12) := ⟨pR.frT (fun i hi => uF i (by omega) (by omega)), ⟨_, uR⟩, hT.fr (fun i hi => (uF i (by omega) (by omega)).trans (pF i (by omega) (by omega) (by omega))), iv_fill hV, ⟨_, _, (uF 158 (by omega) (by omega)).trans pO⟩, (uF 0 (by omega) (by omega)).trans ((pF 0 (by omega) (by omega) (by omega)).trans hs), by omega⟩
  exact SW.pick [2, 3, 4, 5, 6] rfl ((K u un _ (by omega) J).bud (by omega) (by omega))
theorem lc_13 {L : Nat} {xs : Nat → Int32} {h : AH} {n i N d bc bs : Nat} {σ : CS} {Post : ARes → AH → Nat → Prop} (hI : LI L xs h n σ N) (hN : N < 2 ^ 31) (hL : L ≤ 3072) (hi : i + 6 ≤ L) (hd : 20 ≤ d) (h1 : 380 ≤ bc) (h2 : 4500 ≤ bs) (K : ∀ (h' : AH) (n' : Nat) (σ' : CS), n ≤ n' → LI L xs h' n' σ' (N + 12) → SW SR0 ML_law d (bc - 380) (bs - 4500) 1945 [(4, .int (nI i)), (3, .ref 158), (2, .ref 135), (1, .ref 100), (0, .ref 0)] [] h' n' Post) : SW SR0 ML_law d bc bs 804 [(4, .int (nI i)), (3, .ref 158), (2, .ref 135), (1, .ref 100), (0, .ref 0)] [] h n Post := by
  obtain ⟨hR, ⟨th, hQ⟩, hT, hV, ⟨w, s, hO⟩, hs, hn⟩ := hI
  refine sw_aload_n (pc' := 805) rfl dL_law_804 rfl ?_
  refine sw_aload_n (pc' := 806) rfl dL_law_805 rfl ?_
  refine sw_iload (pc' := 808) rfl dL_law_806 rfl ?_
  refine sw_iconst (pc' := 809) (v := 1) rfl dL_law_808 (by decide +kernel) ?_
  refine sw_iadd (pc' := 810) rfl dL_law_809 ?_
  rw [show (nI i) + 1 = nI (i + 1) from nI_add _ _]
  refine sw_iald (j := i + 1) (pc' := 811) rfl dL_law_810 hs rfl (by omega) (by omega) ?_
  refine sw_aload_n (pc' := 812) rfl dL_law_811 rfl ?_
  refine sw_iload (pc' := 814) rfl dL_law_812 rfl ?_
  refine sw_iconst (pc' := 815) (v := 2) rfl dL_law_814 (by decide +kernel) ?_
  refine sw_iadd (pc' := 816) rfl dL_law_815 ?_
  rw [show (nI i) + 2 = nI (i + 2) from nI_add _ _]
  refine sw_iald (j := i + 2) (pc' := 817) rfl dL_law_816 hs rfl (by omega) (by omega) ?_
  refine sw_aload_n (pc' := 818) rfl dL_law_817 rfl ?_
  refine sw_iload (pc' := 820) rfl dL_law_818 rfl ?_
  refine sw_iconst (pc' := 821) (v := 3) rfl dL_law_820 (by decide +kernel) ?_
  refine sw_iadd (pc' := 822) rfl dL_law_821 ?_
  rw [show (nI i) + 3 = nI (i + 3) from nI_add _ _]
  refine sw_iald (j := i + 3) (pc' := 823) rfl dL_law_822 hs rfl (by omega) (by omega) ?_
  refine sw_aload_n (pc' := 824) rfl dL_law_823 rfl ?_
  refine sw_S (M' := ML_replace) (d' := d - 1) (bc' := 60) (bs' := 400) (as := [_, _, _, _, _]) dL_law_824 w_606 ok_L_replace (L_replace hR hT hV hN hO hn (by omega) (Nat.le_refl _) (Nat.le_refl _)) (by omega) (Nat.le_of_ble_eq_true rfl) (by omega) (by omega) (fun E h' n' _ z => lpo_x z) (lpo_k (fun p pn pw ps pk pR pO pv pF => ?_))
  refine sw_istore (pc' := 829) (lv' := [(5, _), (4, _), (3, _), (2, _), (1, _), (0, _)]) rfl dL_law_827 (by decide +kernel) rfl ?_
  refine sw_aload_n (pc' := 830) rfl dL_law_829 rfl ?_
  refine sw_aload_n (pc' := 831) rfl dL_law_830 rfl ?_
  refine sw_iload (pc' := 833) rfl dL_law_831 rfl ?_
  refine sw_iconst (pc' := 834) (v := 1) rfl dL_law_833 (by decide +kernel) ?_
  refine sw_iadd (pc' := 835) rfl dL_law_834 ?_
  rw [show (nI i) + 1 = nI (i + 1) from nI_add _ _]
  refine sw_iald (j := i + 1) (pc' := 836) rfl dL_law_835 ((pF 0 (by omega) (by omega) (by omega)).trans hs) rfl (by omega) (by omega) ?_
  refine sw_aload_n (pc' := 837) rfl dL_law_836 rfl ?_
  refine sw_iload (pc' := 839) rfl dL_law_837 rfl ?_
  refine sw_iconst (pc' := 840) (v := 2) rfl dL_law_839 (by decide +kernel) ?_
  refine sw_iadd (pc' := 841) rfl dL_law_840 ?_
  rw [show (nI i) + 2 = nI (i + 2) from nI_add _ _]
  refine sw_iald (j := i + 2) (pc' := 842) rfl dL_law_841 ((pF 0 (by omega) (by omega) (by omega)).trans hs) rfl (by omega) (by omega) ?_
  refine sw_aload_n (pc' := 843) rfl dL_law_842 rfl ?_
  refine sw_iload (pc' := 845) rfl dL_law_843 rfl ?_
  refine sw_iconst (pc' := 846) (v := 3) rfl dL_law_845 (by decide +kernel) ?_
  refine sw_iadd (pc' := 847) rfl dL_law_846 ?_
  rw [show (nI i) + 3 = nI (i + 3) from nI_add _ _]
  refine sw_iald (j := i + 3) (pc' := 848) rfl dL_law_847 ((pF 0 (by omega) (by omega) (by omega)).trans hs) rfl (by omega) (by omega) ?_
  have hQ2 := hQ.fr (fun i a b => pF i (by omega) (by omega) (by omega))
  obtain ⟨ρ, τ, hM, hA⟩ := id hQ2
  refine sw_V (M' := MX5_replace) (d' := d - 1) (bc' := 1) (bs' := 12) (ci := 6) (as := [_, _, _]) dL_law_848 w_1294 ok_X5_replace (q_replace hQ2 (hV.iv hN) (by omega) (by omega) (Nat.le_refl _) (Nat.le_refl _)) hM.ob rfl (by omega) (Nat.le_of_ble_eq_true rfl) (by omega) (by omega) (fun E h' n' _ z => pmc_x z) (pmc_k ox_replace (fun u un ub uk uv uR uF => ?_))
  refine sw_istore (pc' := 853) (lv' := [(6, _), (5, _), (4, _), (3, _), (2, _), (1, _), (0, _)]) rfl dL_law_851 (by decide +kernel) rfl ?_
  refine sw_goto (tgt := 1945) dL_law_853 (by decide +kernel) ?_
  have J : LI L xs u un (opReplace σ (xs (i + 1)) (xs (i + 2)) (xs (i + 3))).2 (N + 12) := ⟨pR.frT (fun i hi => uF i (by omega) (by omega)), ⟨_, uR⟩, hT.fr (fun i hi => (uF i (by omega) (by omega)).trans (pF i (by omega) (by omega) (by omega))), iv_replace hV, ⟨_, _, (uF 158 (by omega) (by omega)).trans pO⟩, (uF 0 (by omega) (by omega)).trans ((pF 0 (by omega) (by omega) (by omega)).trans hs), by omega⟩
  exact SW.pick [2, 3, 4, 5, 6] rfl ((K u un _ (by omega) J).bud (by omega) (by omega))
theorem lc_14 {L : Nat} {xs : Nat → Int32} {h : AH} {n i N d bc bs : Nat} {σ : CS} {Post : ARes → AH → Nat → Prop} (hI : LI L xs h n σ N) (hN : N < 2 ^ 31) (hL : L ≤ 3072) (hi : i + 6 ≤ L) (hd : 20 ≤ d) (h1 : 380 ≤ bc) (h2 : 4500 ≤ bs) (K : ∀ (h' : AH) (n' : Nat) (σ' : CS), n ≤ n' → LI L xs h' n' σ' (N + 12) → SW SR0 ML_law d (bc - 380) (bs - 4500) 1945 [(4, .int (nI i)), (3, .ref 158), (2, .ref 135), (1, .ref 100), (0, .ref 0)] [] h' n' Post) : SW SR0 ML_law d bc bs 856 [(4, .int (nI i)), (3, .ref 158), (2, .ref 135), (1, .ref 100), (0, .ref 0)] [] h n Post := by
  obtain ⟨hR, ⟨th, hQ⟩, hT, hV, ⟨w, s, hO⟩, hs, hn⟩ := hI
  refine sw_aload_n (pc' := 857) rfl dL_law_856 rfl ?_
  refine sw_aload_n (pc' := 858) rfl dL_law_857 rfl ?_
  refine sw_iload (pc' := 860) rfl dL_law_858 rfl ?_
  refine sw_iconst (pc' := 861) (v := 1) rfl dL_law_860 (by decide +kernel) ?_
  refine sw_iadd (pc' := 862) rfl dL_law_861 ?_
  rw [show (nI i) + 1 = nI (i + 1) from nI_add _ _]
  refine sw_iald (j := i + 1) (pc' := 863) rfl dL_law_862 hs rfl (by omega) (by omega) ?_
  refine sw_aload_n (pc' := 864) rfl dL_law_863 rfl ?_
  refine sw_iload (pc' := 866) rfl dL_law_864 rfl ?_
  refine sw_iconst (pc' := 867) (v := 2) rfl dL_law_866 (by decide +kernel) ?_
  refine sw_iadd (pc' := 868) rfl dL_law_867 ?_
  rw [show (nI i) + 2 = nI (i + 2) from nI_add _ _]
  refine sw_iald (j := i + 2) (pc' := 869) rfl dL_law_868 hs rfl (by omega) (by omega) ?_
  refine sw_aload_n (pc' := 870) rfl dL_law_869 rfl ?_
  refine sw_iload (pc' := 872) rfl dL_law_870 rfl ?_
  refine sw_iconst (pc' := 873) (v := 3) rfl dL_law_872 (by decide +kernel) ?_
  refine sw_iadd (pc' := 874) rfl dL_law_873 ?_
  rw [show (nI i) + 3 = nI (i + 3) from nI_add _ _]
  refine sw_iald (j := i + 3) (pc' := 875) rfl dL_law_874 hs rfl (by omega) (by omega) ?_
  refine sw_aload_n (pc' := 876) rfl dL_law_875 rfl ?_
  refine sw_S (M' := ML_copies) (d' := d - 1) (bc' := 60) (bs' := 400) (as := [_, _, _, _, _]) dL_law_876 w_613 ok_L_copies (L_copies hR hT hV hN hO hn (by omega) (Nat.le_refl _) (Nat.le_refl _)) (by omega) (Nat.le_of_ble_eq_true rfl) (by omega) (by omega) (fun E h' n' _ z => lpo_x z) (lpo_k (fun p pn pw ps pk pR pO pv pF => ?_))
  refine sw_istore (pc' := 881) (lv' := [(5, _), (4, _), (3, _), (2, _), (1, _), (0, _)]) rfl dL_law_879 (by decide +kernel) rfl ?_
  refine sw_aload_n (pc' := 882) rfl dL_law_881 rfl ?_
  refine sw_aload_n (pc' := 883) rfl dL_law_882 rfl ?_
  refine sw_iload (pc' := 885) rfl dL_law_883 rfl ?_
  refine sw_iconst (pc' := 886) (v := 1) rfl dL_law_885 (by decide +kernel) ?_
  refine sw_iadd (pc' := 887) rfl dL_law_886 ?_
  rw [show (nI i) + 1 = nI (i + 1) from nI_add _ _]
  refine sw_iald (j := i + 1) (pc' := 888) rfl dL_law_887 ((pF 0 (by omega) (by omega) (by omega)).trans hs) rfl (by omega) (by omega) ?_
  refine sw_aload_n (pc' := 889) rfl dL_law_888 rfl ?_
  refine sw_iload (pc' := 891) rfl dL_law_889 rfl ?_
  refine sw_iconst (pc' := 892) (v := 2) rfl dL_law_891 (by decide +kernel) ?_
  refine sw_iadd (pc' := 893) rfl dL_law_892 ?_
  rw [show (nI i) + 2 = nI (i + 2) from nI_add _ _]
  refine sw_iald (j := i + 2) (pc' := 894) rfl dL_law_893 ((pF 0 (by omega) (by omega) (by omega)).trans hs) rfl (by omega) (by omega) ?_
  refine sw_aload_n (pc' := 895) rfl dL_law_894 rfl ?_
  refine sw_iload (pc' := 897) rfl dL_law_895 rfl ?_
  refine sw_iconst (pc' := 898) (v := 3) rfl dL_law_897 (by decide +kernel) ?_
  refine sw_iadd (pc' := 899) rfl dL_law_898 ?_
  rw [show (nI i) + 3 = nI (i + 3) from nI_add _ _]
  refine sw_iald (j := i + 3) (pc' := 900) rfl dL_law_899 ((pF 0 (by omega) (by omega) (by omega)).trans hs) rfl (by omega) (by omega) ?_
  have hQ2 := hQ.fr (fun i a b => pF i (by omega) (by omega) (by omega))
  obtain ⟨ρ, τ, hM, hA⟩ := id hQ2
  refine sw_V (M' := MX5_copies) (d' := d - 1) (bc' := 1) (bs' := 12) (ci := 6) (as := [_, _, _]) dL_law_900 w_1298 ok_X5_copies (q_copies hQ2 (hV.iv hN) (by omega) (by omega) (Nat.le_refl _) (Nat.le_refl _)) hM.ob rfl (by omega) (Nat.le_of_ble_eq_true rfl) (by omega) (by omega) (fun E h' n' _ z => pmc_x z) (pmc_k ox_copies (fun u un ub uk uv uR uF => ?_))
  refine sw_istore (pc' := 905) (lv' := [(6, _), (5, _), (4, _), (3, _), (2, _), (1, _), (0, _)]) rfl dL_law_903 (by decide +kernel) rfl ?_
  refine sw_goto (tgt := 1945) dL_law_905 (by decide +kernel) ?_
  have J : LI L xs u un (opCopies σ (xs (i + 1)) (xs (i + 2)) (xs (i + 3))).2 (N + 12) := ⟨pR.frT (fun i hi => uF i (by omega) (by omega)), ⟨_, uR⟩, hT.fr (fun i hi => (uF i (by omega) (by omega)).trans (pF i (by omega) (by omega) (by omega))), iv_copies hV, ⟨_, _, (uF 158 (by omega) (by omega)).trans pO⟩, (uF 0 (by omega) (by omega)).trans ((pF 0 (by omega) (by omega) (by omega)).trans hs), by omega⟩
  exact SW.pick [2, 3, 4, 5, 6] rfl ((K u un _ (by omega) J).bud (by omega) (by omega))
theorem lc_15 {L : Nat} {xs : Nat → Int32} {h : AH} {n i N d bc bs : Nat} {σ : CS} {Post : ARes → AH → Nat → Prop} (hI : LI L xs h n σ N) (hN : N < 2 ^ 31) (hL : L ≤ 3072) (hi : i + 6 ≤ L) (hd : 20 ≤ d) (h1 : 380 ≤ bc) (h2 : 4500 ≤ bs) (K : ∀ (h' : AH) (n' : Nat) (σ' : CS), n ≤ n' → LI L xs h' n' σ' (N + 12) → SW SR0 ML_law d (bc - 380) (bs - 4500) 1945 [(4, .int (nI i)), (3, .ref 158), (2, .ref 135), (1, .ref 100), (0, .ref 0)] [] h' n' Post) : SW SR0 ML_law d bc bs 908 [(4, .int (nI i)), (3, .ref 158), (2, .ref 135), (1, .ref 100), (0, .ref 0)] [] h n Post := by
  obtain ⟨hR, ⟨th, hQ⟩, hT, hV, ⟨w, s, hO⟩, hs, hn⟩ := hI
  refine sw_aload_n (pc' := 909) rfl dL_law_908 rfl ?_
  refine sw_aload_n (pc' := 910) rfl dL_law_909 rfl ?_
  refine sw_iload (pc' := 912) rfl dL_law_910 rfl ?_
  refine sw_iconst (pc' := 913) (v := 1) rfl dL_law_912 (by decide +kernel) ?_
  refine sw_iadd (pc' := 914) rfl dL_law_913 ?_
  rw [show (nI i) + 1 = nI (i + 1) from nI_add _ _]
  refine sw_iald (j := i + 1) (pc' := 915) rfl dL_law_914 hs rfl (by omega) (by omega) ?_
  refine sw_aload_n (pc' := 916) rfl dL_law_915 rfl ?_
  refine sw_iload (pc' := 918) rfl dL_law_916 rfl ?_
  refine sw_iconst (pc' := 919) (v := 2) rfl dL_law_918 (by decide +kernel) ?_
  refine sw_iadd (pc' := 920) rfl dL_law_919 ?_
  rw [show (nI i) + 2 = nI (i + 2) from nI_add _ _]
  refine sw_iald (j := i + 2) (pc' := 921) rfl dL_law_920 hs rfl (by omega) (by omega) ?_
  refine sw_aload_n (pc' := 922) rfl dL_law_921 rfl ?_
  refine sw_iload (pc' := 924) rfl dL_law_922 rfl ?_
  refine sw_iconst (pc' := 925) (v := 3) rfl dL_law_924 (by decide +kernel) ?_
  refine sw_iadd (pc' := 926) rfl dL_law_925 ?_
  rw [show (nI i) + 3 = nI (i + 3) from nI_add _ _]
  refine sw_iald (j := i + 3) (pc' := 927) rfl dL_law_926 hs rfl (by omega) (by omega) ?_
  refine sw_aload_n (pc' := 928) rfl dL_law_927 rfl ?_
  refine sw_S (M' := ML_walk) (d' := d - 1) (bc' := 60) (bs' := 400) (as := [_, _, _, _, _]) dL_law_928 w_624 ok_L_walk (L_walk hR hT hV hN hO hn (by omega) (Nat.le_refl _) (Nat.le_refl _)) (by omega) (Nat.le_of_ble_eq_true rfl) (by omega) (by omega) (fun E h' n' _ z => lpo_x z) (lpo_k (fun p pn pw ps pk pR pO pv pF => ?_))
  refine sw_istore (pc' := 933) (lv' := [(5, _), (4, _), (3, _), (2, _), (1, _), (0, _)]) rfl dL_law_931 (by decide +kernel) rfl ?_
  refine sw_aload_n (pc' := 934) rfl dL_law_933 rfl ?_
  refine sw_aload_n (pc' := 935) rfl dL_law_934 rfl ?_
  refine sw_iload (pc' := 937) rfl dL_law_935 rfl ?_
  refine sw_iconst (pc' := 938) (v := 1) rfl dL_law_937 (by decide +kernel) ?_
  refine sw_iadd (pc' := 939) rfl dL_law_938 ?_
  rw [show (nI i) + 1 = nI (i + 1) from nI_add _ _]
  refine sw_iald (j := i + 1) (pc' := 940) rfl dL_law_939 ((pF 0 (by omega) (by omega) (by omega)).trans hs) rfl (by omega) (by omega) ?_
  refine sw_aload_n (pc' := 941) rfl dL_law_940 rfl ?_
  refine sw_iload (pc' := 943) rfl dL_law_941 rfl ?_
  refine sw_iconst (pc' := 944) (v := 2) rfl dL_law_943 (by decide +kernel) ?_
  refine sw_iadd (pc' := 945) rfl dL_law_944 ?_
  rw [show (nI i) + 2 = nI (i + 2) from nI_add _ _]
  refine sw_iald (j := i + 2) (pc' := 946) rfl dL_law_945 ((pF 0 (by omega) (by omega) (by omega)).trans hs) rfl (by omega) (by omega) ?_
  refine sw_aload_n (pc' := 947) rfl dL_law_946 rfl ?_
  refine sw_iload (pc' := 949) rfl dL_law_947 rfl ?_
  refine sw_iconst (pc' := 950) (v := 3) rfl dL_law_949 (by decide +kernel) ?_
  refine sw_iadd (pc' := 951) rfl dL_law_950 ?_
  rw [show (nI i) + 3 = nI (i + 3) from nI_add _ _]
  refine sw_iald (j := i + 3) (pc' := 952) rfl dL_law_951 ((pF 0 (by omega) (by omega) (by omega)).trans hs) rfl (by omega) (by omega) ?_
  have hQ2 := hQ.fr (fun i a b => pF i (by omega) (by omega) (by omega))
  obtain ⟨ρ, τ, hM, hA⟩ := id hQ2
  refine sw_V (M' := MX5_walk) (d' := d - 1) (bc' := 1) (bs' := 12) (ci := 6) (as := [_, _, _]) dL_law_952 w_1302 ok_X5_walk (q_walk hQ2 (hV.iv hN) (by omega) (by omega) (Nat.le_refl _) (Nat.le_refl _)) hM.ob rfl (by omega) (Nat.le_of_ble_eq_true rfl) (by omega) (by omega) (fun E h' n' _ z => pmc_x z) (pmc_k ox_walk (fun u un ub uk uv uR uF => ?_))
  refine sw_istore (pc' := 957) (lv' := [(6, _), (5, _), (4, _), (3, _), (2, _), (1, _), (0, _)]) rfl dL_law_955 (by decide +kernel) rfl ?_
  refine sw_goto (tgt := 1945) dL_law_957 (by decide +kernel) ?_
  have J : LI L xs u un (opWalk σ (xs (i + 1)) (xs (i + 2)) (xs (i + 3))).2 (N + 12) := ⟨pR.frT (fun i hi => uF i (by omega) (by omega)), ⟨_, uR⟩, hT.fr (fun i hi => (uF i (by omega) (by omega)).trans (pF i (by omega) (by omega) (by omega))), iv_walk hV, ⟨_, _, (uF 158 (by omega) (by omega)).trans pO⟩, (uF 0 (by omega) (by omega)).trans ((pF 0 (by omega) (by omega) (by omega)).trans hs), by omega⟩
  exact SW.pick [2, 3, 4, 5, 6] rfl ((K u un _ (by omega) J).bud (by omega) (by omega))
theorem lc_16 {L : Nat} {xs : Nat → Int32} {h : AH} {n i N d bc bs : Nat} {σ : CS} {Post : ARes → AH → Nat → Prop} (hI : LI L xs h n σ N) (hN : N < 2 ^ 31) (hL : L ≤ 3072) (hi : i + 6 ≤ L) (hd : 20 ≤ d) (h1 : 380 ≤ bc) (h2 : 4500 ≤ bs) (K : ∀ (h' : AH) (n' : Nat) (σ' : CS), n ≤ n' → LI L xs h' n' σ' (N + 12) → SW SR0 ML_law d (bc - 380) (bs - 4500) 1945 [(4, .int (nI i)), (3, .ref 158), (2, .ref 135), (1, .ref 100), (0, .ref 0)] [] h' n' Post) : SW SR0 ML_law d bc bs 960 [(4, .int (nI i)), (3, .ref 158), (2, .ref 135), (1, .ref 100), (0, .ref 0)] [] h n Post := by
  obtain ⟨hR, ⟨th, hQ⟩, hT, hV, ⟨w, s, hO⟩, hs, hn⟩ := hI
  refine sw_aload_n (pc' := 961) rfl dL_law_960 rfl ?_
  refine sw_aload_n (pc' := 962) rfl dL_law_961 rfl ?_
  refine sw_iload (pc' := 964) rfl dL_law_962 rfl ?_
  refine sw_iconst (pc' := 965) (v := 1) rfl dL_law_964 (by decide +kernel) ?_
  refine sw_iadd (pc' := 966) rfl dL_law_965 ?_
  rw [show (nI i) + 1 = nI (i + 1) from nI_add _ _]
  refine sw_iald (j := i + 1) (pc' := 967) rfl dL_law_966 hs rfl (by omega) (by omega) ?_
  refine sw_aload_n (pc' := 968) rfl dL_law_967 rfl ?_
  refine sw_S (M' := ML_next) (d' := d - 1) (bc' := 60) (bs' := 400) (as := [_, _, _]) dL_law_968 w_633 ok_L_next (L_next hR hT hV hN hO hn (by omega) (Nat.le_refl _) (Nat.le_refl _)) (by omega) (Nat.le_of_ble_eq_true rfl) (by omega) (by omega) (fun E h' n' _ z => lpo_x z) (lpo_k (fun p pn pw ps pk pR pO pv pF => ?_))
  refine sw_istore (pc' := 973) (lv' := [(5, _), (4, _), (3, _), (2, _), (1, _), (0, _)]) rfl dL_law_971 (by decide +kernel) rfl ?_
  refine sw_aload_n (pc' := 974) rfl dL_law_973 rfl ?_
  refine sw_aload_n (pc' := 975) rfl dL_law_974 rfl ?_
  refine sw_iload (pc' := 977) rfl dL_law_975 rfl ?_
  refine sw_iconst (pc' := 978) (v := 1) rfl dL_law_977 (by decide +kernel) ?_
  refine sw_iadd (pc' := 979) rfl dL_law_978 ?_
  rw [show (nI i) + 1 = nI (i + 1) from nI_add _ _]
  refine sw_iald (j := i + 1) (pc' := 980) rfl dL_law_979 ((pF 0 (by omega) (by omega) (by omega)).trans hs) rfl (by omega) (by omega) ?_
  have hQ2 := hQ.fr (fun i a b => pF i (by omega) (by omega) (by omega))
  obtain ⟨ρ, τ, hM, hA⟩ := id hQ2
  refine sw_V (M' := MX5_next) (d' := d - 1) (bc' := 1) (bs' := 12) (ci := 6) (as := [_]) dL_law_980 w_1309 ok_X5_next (q_next hQ2 (hV.iv hN) (by omega) (by omega) (Nat.le_refl _) (Nat.le_refl _)) hM.ob rfl (by omega) (Nat.le_of_ble_eq_true rfl) (by omega) (by omega) (fun E h' n' _ z => pmc_x z) (pmc_k ox_next (fun u un ub uk uv uR uF => ?_))
  refine sw_istore (pc' := 985) (lv' := [(6, _), (5, _), (4, _), (3, _), (2, _), (1, _), (0, _)]) rfl dL_law_983 (by decide +kernel) rfl ?_
  refine sw_goto (tgt := 1945) dL_law_985 (by decide +kernel) ?_
  have J : LI L xs u un (opNext σ (xs (i + 1))).2 (N + 12) := ⟨pR.frT (fun i hi => uF i (by omega) (by omega)), ⟨_, uR⟩, hT.fr (fun i hi => (uF i (by omega) (by omega)).trans (pF i (by omega) (by omega) (by omega))), iv_next hV, ⟨_, _, (uF 158 (by omega) (by omega)).trans pO⟩, (uF 0 (by omega) (by omega)).trans ((pF 0 (by omega) (by omega) (by omega)).trans hs), by omega⟩
  exact SW.pick [2, 3, 4, 5, 6] rfl ((K u un _ (by omega) J).bud (by omega) (by omega))
theorem lc_17 {L : Nat} {xs : Nat → Int32} {h : AH} {n i N d bc bs : Nat} {σ : CS} {Post : ARes → AH → Nat → Prop} (hI : LI L xs h n σ N) (hN : N < 2 ^ 31) (hL : L ≤ 3072) (hi : i + 6 ≤ L) (hd : 20 ≤ d) (h1 : 380 ≤ bc) (h2 : 4500 ≤ bs) (K : ∀ (h' : AH) (n' : Nat) (σ' : CS), n ≤ n' → LI L xs h' n' σ' (N + 12) → SW SR0 ML_law d (bc - 380) (bs - 4500) 1945 [(4, .int (nI i)), (3, .ref 158), (2, .ref 135), (1, .ref 100), (0, .ref 0)] [] h' n' Post) : SW SR0 ML_law d bc bs 988 [(4, .int (nI i)), (3, .ref 158), (2, .ref 135), (1, .ref 100), (0, .ref 0)] [] h n Post := by
  obtain ⟨hR, ⟨th, hQ⟩, hT, hV, ⟨w, s, hO⟩, hs, hn⟩ := hI
  refine sw_aload_n (pc' := 989) rfl dL_law_988 rfl ?_
  refine sw_aload_n (pc' := 990) rfl dL_law_989 rfl ?_
  refine sw_iload (pc' := 992) rfl dL_law_990 rfl ?_
  refine sw_iconst (pc' := 993) (v := 1) rfl dL_law_992 (by decide +kernel) ?_
  refine sw_iadd (pc' := 994) rfl dL_law_993 ?_
  rw [show (nI i) + 1 = nI (i + 1) from nI_add _ _]
  refine sw_iald (j := i + 1) (pc' := 995) rfl dL_law_994 hs rfl (by omega) (by omega) ?_
  refine sw_aload_n (pc' := 996) rfl dL_law_995 rfl ?_
  refine sw_S (M' := ML_more) (d' := d - 1) (bc' := 60) (bs' := 400) (as := [_, _, _]) dL_law_996 w_644 ok_L_more (L_more hR hT hV hN hO hn (by omega) (Nat.le_refl _) (Nat.le_refl _)) (by omega) (Nat.le_of_ble_eq_true rfl) (by omega) (by omega) (fun E h' n' _ z => lpo_x z) (lpo_k (fun p pn pw ps pk pR pO pv pF => ?_))
  refine sw_istore (pc' := 1001) (lv' := [(5, _), (4, _), (3, _), (2, _), (1, _), (0, _)]) rfl dL_law_999 (by decide +kernel) rfl ?_
  refine sw_aload_n (pc' := 1002) rfl dL_law_1001 rfl ?_
  refine sw_aload_n (pc' := 1003) rfl dL_law_1002 rfl ?_
  refine sw_iload (pc' := 1005) rfl dL_law_1003 rfl ?_
  refine sw_iconst (pc' := 1006) (v := 1) rfl dL_law_1005 (by decide +kernel) ?_
  refine sw_iadd (pc' := 1007) rfl dL_law_1006 ?_
  rw [show (nI i) + 1 = nI (i + 1) from nI_add _ _]
  refine sw_iald (j := i + 1) (pc' := 1008) rfl dL_law_1007 ((pF 0 (by omega) (by omega) (by omega)).trans hs) rfl (by omega) (by omega) ?_
  have hQ2 := hQ.fr (fun i a b => pF i (by omega) (by omega) (by omega))
  obtain ⟨ρ, τ, hM, hA⟩ := id hQ2
  refine sw_V (M' := MX5_more) (d' := d - 1) (bc' := 1) (bs' := 12) (ci := 6) (as := [_]) dL_law_1008 w_1329 ok_X5_more (q_more hQ2 (hV.iv hN) (by omega) (by omega) (Nat.le_refl _) (Nat.le_refl _)) hM.ob rfl (by omega) (Nat.le_of_ble_eq_true rfl) (by omega) (by omega) (fun E h' n' _ z => pmc_x z) (pmc_k ox_more (fun u un ub uk uv uR uF => ?_))
  refine sw_istore (pc' := 1013) (lv' := [(6, _), (5, _), (4, _), (3, _), (2, _), (1, _), (0, _)]) rfl dL_law_1011 (by decide +kernel) rfl ?_
  refine sw_goto (tgt := 1945) dL_law_1013 (by decide +kernel) ?_
  have J : LI L xs u un (opMore σ (xs (i + 1))).2 (N + 12) := ⟨pR.frT (fun i hi => uF i (by omega) (by omega)), ⟨_, uR⟩, hT.fr (fun i hi => (uF i (by omega) (by omega)).trans (pF i (by omega) (by omega) (by omega))), iv_more hV, ⟨_, _, (uF 158 (by omega) (by omega)).trans pO⟩, (uF 0 (by omega) (by omega)).trans ((pF 0 (by omega) (by omega) (by omega)).trans hs), by omega⟩
  exact SW.pick [2, 3, 4, 5, 6] rfl ((K u un _ (by omega) J).bud (by omega) (by omega))
theorem lc_18 {L : Nat} {xs : Nat → Int32} {h : AH} {n i N d bc bs : Nat} {σ : CS} {Post : ARes → AH → Nat → Prop} (hI : LI L xs h n σ N) (hN : N < 2 ^ 31) (hL : L ≤ 3072) (hi : i + 6 ≤ L) (hd : 20 ≤ d) (h1 : 380 ≤ bc) (h2 : 4500 ≤ bs) (K : ∀ (h' : AH) (n' : Nat) (σ' : CS), n ≤ n' → LI L xs h' n' σ' (N + 12) → SW SR0 ML_law d (bc - 380) (bs - 4500) 1945 [(4, .int (nI i)), (3, .ref 158), (2, .ref 135), (1, .ref 100), (0, .ref 0)] [] h' n' Post) : SW SR0 ML_law d bc bs 1016 [(4, .int (nI i)), (3, .ref 158), (2, .ref 135), (1, .ref 100), (0, .ref 0)] [] h n Post := by
  obtain ⟨hR, ⟨th, hQ⟩, hT, hV, ⟨w, s, hO⟩, hs, hn⟩ := hI
  refine sw_aload_n (pc' := 1017) rfl dL_law_1016 rfl ?_
  refine sw_aload_n (pc' := 1018) rfl dL_law_1017 rfl ?_
  refine sw_iload (pc' := 1020) rfl dL_law_1018 rfl ?_
  refine sw_iconst (pc' := 1021) (v := 1) rfl dL_law_1020 (by decide +kernel) ?_
  refine sw_iadd (pc' := 1022) rfl dL_law_1021 ?_
  rw [show (nI i) + 1 = nI (i + 1) from nI_add _ _]
  refine sw_iald (j := i + 1) (pc' := 1023) rfl dL_law_1022 hs rfl (by omega) (by omega) ?_
  refine sw_aload_n (pc' := 1024) rfl dL_law_1023 rfl ?_
  refine sw_S (M' := ML_takeOut) (d' := d - 1) (bc' := 60) (bs' := 400) (as := [_, _, _]) dL_law_1024 w_651 ok_L_takeOut (L_takeOut hR hT hV hN hO hn (by omega) (Nat.le_refl _) (Nat.le_refl _)) (by omega) (Nat.le_of_ble_eq_true rfl) (by omega) (by omega) (fun E h' n' _ z => lpo_x z) (lpo_k (fun p pn pw ps pk pR pO pv pF => ?_))
  refine sw_istore (pc' := 1029) (lv' := [(5, _), (4, _), (3, _), (2, _), (1, _), (0, _)]) rfl dL_law_1027 (by decide +kernel) rfl ?_
  refine sw_aload_n (pc' := 1030) rfl dL_law_1029 rfl ?_
  refine sw_aload_n (pc' := 1031) rfl dL_law_1030 rfl ?_
  refine sw_iload (pc' := 1033) rfl dL_law_1031 rfl ?_
  refine sw_iconst (pc' := 1034) (v := 1) rfl dL_law_1033 (by decide +kernel) ?_
  refine sw_iadd (pc' := 1035) rfl dL_law_1034 ?_
  rw [show (nI i) + 1 = nI (i + 1) from nI_add _ _]
  refine sw_iald (j := i + 1) (pc' := 1036) rfl dL_law_1035 ((pF 0 (by omega) (by omega) (by omega)).trans hs) rfl (by omega) (by omega) ?_
  have hQ2 := hQ.fr (fun i a b => pF i (by omega) (by omega) (by omega))
  obtain ⟨ρ, τ, hM, hA⟩ := id hQ2
  refine sw_V (M' := MX5_takeOut) (d' := d - 1) (bc' := 1) (bs' := 12) (ci := 6) (as := [_]) dL_law_1036 w_1333 ok_X5_takeOut (q_takeOut hQ2 (hV.iv hN) (by omega) (by omega) (Nat.le_refl _) (Nat.le_refl _)) hM.ob rfl (by omega) (Nat.le_of_ble_eq_true rfl) (by omega) (by omega) (fun E h' n' _ z => pmc_x z) (pmc_k ox_takeOut (fun u un ub uk uv uR uF => ?_))
  refine sw_istore (pc' := 1041) (lv' := [(6, _), (5, _), (4, _), (3, _), (2, _), (1, _), (0, _)]) rfl dL_law_1039 (by decide +kernel) rfl ?_
  refine sw_goto (tgt := 1945) dL_law_1041 (by decide +kernel) ?_
  have J : LI L xs u un (opTakeOut σ (xs (i + 1))).2 (N + 12) := ⟨pR.frT (fun i hi => uF i (by omega) (by omega)), ⟨_, uR⟩, hT.fr (fun i hi => (uF i (by omega) (by omega)).trans (pF i (by omega) (by omega) (by omega))), iv_takeOut hV hN, ⟨_, _, (uF 158 (by omega) (by omega)).trans pO⟩, (uF 0 (by omega) (by omega)).trans ((pF 0 (by omega) (by omega) (by omega)).trans hs), by omega⟩
  exact SW.pick [2, 3, 4, 5, 6] rfl ((K u un _ (by omega) J).bud (by omega) (by omega))
theorem lc_19 {L : Nat} {xs : Nat → Int32} {h : AH} {n i N d bc bs : Nat} {σ : CS} {Post : ARes → AH → Nat → Prop} (hI : LI L xs h n σ N) (hN : N < 2 ^ 31) (hL : L ≤ 3072) (hi : i + 6 ≤ L) (hd : 20 ≤ d) (h1 : 380 ≤ bc) (h2 : 4500 ≤ bs) (K : ∀ (h' : AH) (n' : Nat) (σ' : CS), n ≤ n' → LI L xs h' n' σ' (N + 12) → SW SR0 ML_law d (bc - 380) (bs - 4500) 1945 [(4, .int (nI i)), (3, .ref 158), (2, .ref 135), (1, .ref 100), (0, .ref 0)] [] h' n' Post) : SW SR0 ML_law d bc bs 1044 [(4, .int (nI i)), (3, .ref 158), (2, .ref 135), (1, .ref 100), (0, .ref 0)] [] h n Post := by
  obtain ⟨hR, ⟨th, hQ⟩, hT, hV, ⟨w, s, hO⟩, hs, hn⟩ := hI
  refine sw_aload_n (pc' := 1045) rfl dL_law_1044 rfl ?_
  refine sw_aload_n (pc' := 1046) rfl dL_law_1045 rfl ?_
  refine sw_iload (pc' := 1048) rfl dL_law_1046 rfl ?_
  refine sw_iconst (pc' := 1049) (v := 1) rfl dL_law_1048 (by decide +kernel) ?_
  refine sw_iadd (pc' := 1050) rfl dL_law_1049 ?_
  rw [show (nI i) + 1 = nI (i + 1) from nI_add _ _]
  refine sw_iald (j := i + 1) (pc' := 1051) rfl dL_law_1050 hs rfl (by omega) (by omega) ?_
  refine sw_aload_n (pc' := 1052) rfl dL_law_1051 rfl ?_
  refine sw_S (M' := ML_rest) (d' := d - 1) (bc' := 60) (bs' := 400) (as := [_, _, _]) dL_law_1052 w_666 ok_L_rest (L_rest hR hT hV hN hO hn (by omega) (Nat.le_refl _) (Nat.le_refl _)) (by omega) (Nat.le_of_ble_eq_true rfl) (by omega) (by omega) (fun E h' n' _ z => lpt_x z) (lpt_k (fun p pn pw ps pk pR pO pv pF => ?_))
  refine sw_istore (pc' := 1057) (lv' := [(5, _), (4, _), (3, _), (2, _), (1, _), (0, _)]) rfl dL_law_1055 (by decide +kernel) rfl ?_
  refine sw_aload_n (pc' := 1058) rfl dL_law_1057 rfl ?_
  refine sw_aload_n (pc' := 1059) rfl dL_law_1058 rfl ?_
  refine sw_iload (pc' := 1061) rfl dL_law_1059 rfl ?_
  refine sw_iconst (pc' := 1062) (v := 1) rfl dL_law_1061 (by decide +kernel) ?_
  refine sw_iadd (pc' := 1063) rfl dL_law_1062 ?_
  rw [show (nI i) + 1 = nI (i + 1) from nI_add _ _]
  refine sw_iald (j := i + 1) (pc' := 1064) rfl dL_law_1063 ((pF 0 (by omega) (by omega) (by omega)).trans hs) rfl (by omega) (by omega) ?_
  have hQ2 := hQ.fr (fun i a b => pF i (by omega) (by omega) (by omega))
  obtain ⟨ρ, τ, hM, hA⟩ := id hQ2
  have pT := hT.fr (fun i hi => pF i (by omega) (by omega) (by omega))
  refine sw_V (M' := MX5_rest) (d' := d - 1) (bc' := 200) (bs' := 2800) (ci := 6) (as := [_]) dL_law_1064 w_1337 ok_X5_rest (q_rest hQ2 (hV.iv hN) (by omega) (by omega) (Nat.le_refl _) (Nat.le_refl _) pT) hM.ob rfl (by omega) (Nat.le_of_ble_eq_true rfl) (by omega) (by omega) (fun E h' n' _ z => ptc_x z) (ptl_k (fun u un ux uk uS uR uF => ?_))
  refine sw_astore (pc' := 1069) (lv' := [(6, _), (5, _), (4, _), (3, _), (2, _), (1, _), (0, _)]) rfl dL_law_1067 (by decide +kernel) rfl ?_
  refine sw_goto (tgt := 1945) dL_law_1069 (by decide +kernel) ?_
  have J : LI L xs u un (opRest σ (xs (i + 1))).2 (N + 12) := ⟨pR.frT (fun i hi => uF i (by omega) (by omega)), ⟨_, uR⟩, hT.fr (fun i hi => (uF i (by omega) (by omega)).trans (pF i (by omega) (by omega) (by omega))), iv_rest hV, ⟨_, _, (uF 158 (by omega) (by omega)).trans pO⟩, (uF 0 (by omega) (by omega)).trans ((pF 0 (by omega) (by omega) (by omega)).trans hs), by omega⟩
  exact SW.pick [2, 3, 4, 5, 6] rfl ((K u un _ (by omega) J).bud (by omega) (by omega))
theorem lc_20 {L : Nat} {xs : Nat → Int32} {h : AH} {n i N d bc bs : Nat} {σ : CS} {Post : ARes → AH → Nat → Prop} (hI : LI L xs h n σ N) (hN : N < 2 ^ 31) (hL : L ≤ 3072) (hi : i + 6 ≤ L) (hd : 20 ≤ d) (h1 : 380 ≤ bc) (h2 : 4500 ≤ bs) (K : ∀ (h' : AH) (n' : Nat) (σ' : CS), n ≤ n' → LI L xs h' n' σ' (N + 12) → SW SR0 ML_law d (bc - 380) (bs - 4500) 1945 [(4, .int (nI i)), (3, .ref 158), (2, .ref 135), (1, .ref 100), (0, .ref 0)] [] h' n' Post) : SW SR0 ML_law d bc bs 1072 [(4, .int (nI i)), (3, .ref 158), (2, .ref 135), (1, .ref 100), (0, .ref 0)] [] h n Post := by
  obtain ⟨hR, ⟨th, hQ⟩, hT, hV, ⟨w, s, hO⟩, hs, hn⟩ := hI
  refine sw_aload_n (pc' := 1073) rfl dL_law_1072 rfl ?_
  refine sw_aload_n (pc' := 1074) rfl dL_law_1073 rfl ?_
  refine sw_iload (pc' := 1076) rfl dL_law_1074 rfl ?_
  refine sw_iconst (pc' := 1077) (v := 1) rfl dL_law_1076 (by decide +kernel) ?_
  refine sw_iadd (pc' := 1078) rfl dL_law_1077 ?_
  rw [show (nI i) + 1 = nI (i + 1) from nI_add _ _]
  refine sw_iald (j := i + 1) (pc' := 1079) rfl dL_law_1078 hs rfl (by omega) (by omega) ?_
  refine sw_aload_n (pc' := 1080) rfl dL_law_1079 rfl ?_
  refine sw_iload (pc' := 1082) rfl dL_law_1080 rfl ?_
  refine sw_iconst (pc' := 1083) (v := 2) rfl dL_law_1082 (by decide +kernel) ?_
  refine sw_iadd (pc' := 1084) rfl dL_law_1083 ?_
  rw [show (nI i) + 2 = nI (i + 2) from nI_add _ _]
  refine sw_iald (j := i + 2) (pc' := 1085) rfl dL_law_1084 hs rfl (by omega) (by omega) ?_
  refine sw_aload_n (pc' := 1086) rfl dL_law_1085 rfl ?_
  refine sw_S (M' := ML_keepRest) (d' := d - 1) (bc' := 60) (bs' := 400) (as := [_, _, _, _]) dL_law_1086 w_952 ok_L_keepRest (L_keepRest hR hT hV hN hO hn (by omega) (Nat.le_refl _) (Nat.le_refl _)) (by omega) (Nat.le_of_ble_eq_true rfl) (by omega) (by omega) (fun E h' n' _ z => lpo_x z) (lpo_k (fun p pn pw ps pk pR pO pv pF => ?_))
  refine sw_istore (pc' := 1091) (lv' := [(5, _), (4, _), (3, _), (2, _), (1, _), (0, _)]) rfl dL_law_1089 (by decide +kernel) rfl ?_
  refine sw_aload_n (pc' := 1092) rfl dL_law_1091 rfl ?_
  refine sw_aload_n (pc' := 1093) rfl dL_law_1092 rfl ?_
  refine sw_iload (pc' := 1095) rfl dL_law_1093 rfl ?_
  refine sw_iconst (pc' := 1096) (v := 1) rfl dL_law_1095 (by decide +kernel) ?_
  refine sw_iadd (pc' := 1097) rfl dL_law_1096 ?_
  rw [show (nI i) + 1 = nI (i + 1) from nI_add _ _]
  refine sw_iald (j := i + 1) (pc' := 1098) rfl dL_law_1097 ((pF 0 (by omega) (by omega) (by omega)).trans hs) rfl (by omega) (by omega) ?_
  refine sw_aload_n (pc' := 1099) rfl dL_law_1098 rfl ?_
  refine sw_iload (pc' := 1101) rfl dL_law_1099 rfl ?_
  refine sw_iconst (pc' := 1102) (v := 2) rfl dL_law_1101 (by decide +kernel) ?_
  refine sw_iadd (pc' := 1103) rfl dL_law_1102 ?_
  rw [show (nI i) + 2 = nI (i + 2) from nI_add _ _]
  refine sw_iald (j := i + 2) (pc' := 1104) rfl dL_law_1103 ((pF 0 (by omega) (by omega) (by omega)).trans hs) rfl (by omega) (by omega) ?_
  have hQ2 := hQ.fr (fun i a b => pF i (by omega) (by omega) (by omega))
  obtain ⟨ρ, τ, hM, hA⟩ := id hQ2
  refine sw_V (M' := MX5_keepRest) (d' := d - 1) (bc' := 1) (bs' := 12) (ci := 6) (as := [_, _]) dL_law_1104 w_1364 ok_X5_keepRest (q_keepRest hQ2 (hV.iv hN) (by omega) (by omega) (Nat.le_refl _) (Nat.le_refl _)) hM.ob rfl (by omega) (Nat.le_of_ble_eq_true rfl) (by omega) (by omega) (fun E h' n' _ z => pmc_x z) (pmc_k ox_keepRest (fun u un ub uk uv uR uF => ?_))
  refine sw_istore (pc' := 1109) (lv' := [(6, _), (5, _), (4, _), (3, _), (2, _), (1, _), (0, _)]) rfl dL_law_1107 (by decide +kernel) rfl ?_
  refine sw_goto (tgt := 1945) dL_law_1109 (by decide +kernel) ?_
  have J : LI L xs u un (opKeepRest σ (xs (i + 1)) (xs (i + 2))).2 (N + 12) := ⟨pR.frT (fun i hi => uF i (by omega) (by omega)), ⟨_, uR⟩, hT.fr (fun i hi => (uF i (by omega) (by omega)).trans (pF i (by omega) (by omega) (by omega))), iv_keepRest hV, ⟨_, _, (uF 158 (by omega) (by omega)).trans pO⟩, (uF 0 (by omega) (by omega)).trans ((pF 0 (by omega) (by omega) (by omega)).trans hs), by omega⟩
  exact SW.pick [2, 3, 4, 5, 6] rfl ((K u un _ (by omega) J).bud (by omega) (by omega))
theorem lc_21 {L : Nat} {xs : Nat → Int32} {h : AH} {n i N d bc bs : Nat} {σ : CS} {Post : ARes → AH → Nat → Prop} (hI : LI L xs h n σ N) (hN : N < 2 ^ 31) (hL : L ≤ 3072) (hi : i + 6 ≤ L) (hd : 20 ≤ d) (h1 : 380 ≤ bc) (h2 : 4500 ≤ bs) (K : ∀ (h' : AH) (n' : Nat) (σ' : CS), n ≤ n' → LI L xs h' n' σ' (N + 12) → SW SR0 ML_law d (bc - 380) (bs - 4500) 1945 [(4, .int (nI i)), (3, .ref 158), (2, .ref 135), (1, .ref 100), (0, .ref 0)] [] h' n' Post) : SW SR0 ML_law d bc bs 1112 [(4, .int (nI i)), (3, .ref 158), (2, .ref 135), (1, .ref 100), (0, .ref 0)] [] h n Post := by
  obtain ⟨hR, ⟨th, hQ⟩, hT, hV, ⟨w, s, hO⟩, hs, hn⟩ := hI
  refine sw_aload_n (pc' := 1113) rfl dL_law_1112 rfl ?_
  refine sw_aload_n (pc' := 1114) rfl dL_law_1113 rfl ?_
  refine sw_iload (pc' := 1116) rfl dL_law_1114 rfl ?_
  refine sw_iconst (pc' := 1117) (v := 1) rfl dL_law_1116 (by decide +kernel) ?_
  refine sw_iadd (pc' := 1118) rfl dL_law_1117 ?_
  rw [show (nI i) + 1 = nI (i + 1) from nI_add _ _]
  refine sw_iald (j := i + 1) (pc' := 1119) rfl dL_law_1118 hs rfl (by omega) (by omega) ?_
  refine sw_aload_n (pc' := 1120) rfl dL_law_1119 rfl ?_
  refine sw_iload (pc' := 1122) rfl dL_law_1120 rfl ?_
  refine sw_iconst (pc' := 1123) (v := 2) rfl dL_law_1122 (by decide +kernel) ?_
  refine sw_iadd (pc' := 1124) rfl dL_law_1123 ?_
  rw [show (nI i) + 2 = nI (i + 2) from nI_add _ _]
  refine sw_iald (j := i + 2) (pc' := 1125) rfl dL_law_1124 hs rfl (by omega) (by omega) ?_
  refine sw_aload_n (pc' := 1126) rfl dL_law_1125 rfl ?_
  refine sw_S (M' := ML_keep) (d' := d - 1) (bc' := 60) (bs' := 400) (as := [_, _, _, _]) dL_law_1126 w_964 ok_L_keep (L_keep hR hT hV hN hO hn (by omega) (Nat.le_refl _) (Nat.le_refl _)) (by omega) (Nat.le_of_ble_eq_true rfl) (by omega) (by omega) (fun E h' n' _ z => lpo_x z) (lpo_k (fun p pn pw ps pk pR pO pv pF => ?_))
  refine sw_istore (pc' := 1131) (lv' := [(5, _), (4, _), (3, _), (2, _), (1, _), (0, _)]) rfl dL_law_1129 (by decide +kernel) rfl ?_
  refine sw_aload_n (pc' := 1132) rfl dL_law_1131 rfl ?_
  refine sw_aload_n (pc' := 1133) rfl dL_law_1132 rfl ?_
  refine sw_iload (pc' := 1135) rfl dL_law_1133 rfl ?_
  refine sw_iconst (pc' := 1136) (v := 1) rfl dL_law_1135 (by decide +kernel) ?_
  refine sw_iadd (pc' := 1137) rfl dL_law_1136 ?_
  rw [show (nI i) + 1 = nI (i + 1) from nI_add _ _]
  refine sw_iald (j := i + 1) (pc' := 1138) rfl dL_law_1137 ((pF 0 (by omega) (by omega) (by omega)).trans hs) rfl (by omega) (by omega) ?_
  refine sw_aload_n (pc' := 1139) rfl dL_law_1138 rfl ?_
  refine sw_iload (pc' := 1141) rfl dL_law_1139 rfl ?_
  refine sw_iconst (pc' := 1142) (v := 2) rfl dL_law_1141 (by decide +kernel) ?_
  refine sw_iadd (pc' := 1143) rfl dL_law_1142 ?_
  rw [show (nI i) + 2 = nI (i + 2) from nI_add _ _]
  refine sw_iald (j := i + 2) (pc' := 1144) rfl dL_law_1143 ((pF 0 (by omega) (by omega) (by omega)).trans hs) rfl (by omega) (by omega) ?_
  have hQ2 := hQ.fr (fun i a b => pF i (by omega) (by omega) (by omega))
  obtain ⟨ρ, τ, hM, hA⟩ := id hQ2
  refine sw_V (M' := MX5_keep) (d' := d - 1) (bc' := 1) (bs' := 12) (ci := 6) (as := [_, _]) dL_law_1144 w_1375 ok_X5_keep (q_keep hQ2 (hV.iv hN) (by omega) (by omega) (Nat.le_refl _) (Nat.le_refl _)) hM.ob rfl (by omega) (Nat.le_of_ble_eq_true rfl) (by omega) (by omega) (fun E h' n' _ z => pmc_x z) (pmc_k ox_keep (fun u un ub uk uv uR uF => ?_))
  refine sw_istore (pc' := 1149) (lv' := [(6, _), (5, _), (4, _), (3, _), (2, _), (1, _), (0, _)]) rfl dL_law_1147 (by decide +kernel) rfl ?_
  refine sw_goto (tgt := 1945) dL_law_1149 (by decide +kernel) ?_
  have J : LI L xs u un (opKeep σ (xs (i + 1)) (xs (i + 2))).2 (N + 12) := ⟨pR.frT (fun i hi => uF i (by omega) (by omega)), ⟨_, uR⟩, hT.fr (fun i hi => (uF i (by omega) (by omega)).trans (pF i (by omega) (by omega) (by omega))), iv_keep hV, ⟨_, _, (uF 158 (by omega) (by omega)).trans pO⟩, (uF 0 (by omega) (by omega)).trans ((pF 0 (by omega) (by omega) (by omega)).trans hs), by omega⟩
  exact SW.pick [2, 3, 4, 5, 6] rfl ((K u un _ (by omega) J).bud (by omega) (by omega))
theorem lc_22 {L : Nat} {xs : Nat → Int32} {h : AH} {n i N d bc bs : Nat} {σ : CS} {Post : ARes → AH → Nat → Prop} (hI : LI L xs h n σ N) (hN : N < 2 ^ 31) (hL : L ≤ 3072) (hi : i + 6 ≤ L) (hd : 20 ≤ d) (h1 : 380 ≤ bc) (h2 : 4500 ≤ bs) (K : ∀ (h' : AH) (n' : Nat) (σ' : CS), n ≤ n' → LI L xs h' n' σ' (N + 12) → SW SR0 ML_law d (bc - 380) (bs - 4500) 1945 [(4, .int (nI i)), (3, .ref 158), (2, .ref 135), (1, .ref 100), (0, .ref 0)] [] h' n' Post) : SW SR0 ML_law d bc bs 1152 [(4, .int (nI i)), (3, .ref 158), (2, .ref 135), (1, .ref 100), (0, .ref 0)] [] h n Post := by
  obtain ⟨hR, ⟨th, hQ⟩, hT, hV, ⟨w, s, hO⟩, hs, hn⟩ := hI
  refine sw_aload_n (pc' := 1153) rfl dL_law_1152 rfl ?_
  refine sw_aload_n (pc' := 1154) rfl dL_law_1153 rfl ?_
  refine sw_iload (pc' := 1156) rfl dL_law_1154 rfl ?_
  refine sw_iconst (pc' := 1157) (v := 1) rfl dL_law_1156 (by decide +kernel) ?_
  refine sw_iadd (pc' := 1158) rfl dL_law_1157 ?_
  rw [show (nI i) + 1 = nI (i + 1) from nI_add _ _]
  refine sw_iald (j := i + 1) (pc' := 1159) rfl dL_law_1158 hs rfl (by omega) (by omega) ?_
  refine sw_aload_n (pc' := 1160) rfl dL_law_1159 rfl ?_
  refine sw_S (M' := ML_drop) (d' := d - 1) (bc' := 60) (bs' := 400) (as := [_, _, _]) dL_law_1160 w_971 ok_L_drop (L_drop hR hT hV hN hO hn (by omega) (Nat.le_refl _) (Nat.le_refl _)) (by omega) (Nat.le_of_ble_eq_true rfl) (by omega) (by omega) (fun E h' n' _ z => lpo_x z) (lpo_k (fun p pn pw ps pk pR pO pv pF => ?_))
  refine sw_istore (pc' := 1165) (lv' := [(5, _), (4, _), (3, _), (2, _), (1, _), (0, _)]) rfl dL_law_1163 (by decide +kernel) rfl ?_
  refine sw_aload_n (pc' := 1166) rfl dL_law_1165 rfl ?_
  refine sw_aload_n (pc' := 1167) rfl dL_law_1166 rfl ?_
  refine sw_iload (pc' := 1169) rfl dL_law_1167 rfl ?_
  refine sw_iconst (pc' := 1170) (v := 1) rfl dL_law_1169 (by decide +kernel) ?_
  refine sw_iadd (pc' := 1171) rfl dL_law_1170 ?_
  rw [show (nI i) + 1 = nI (i + 1) from nI_add _ _]
  refine sw_iald (j := i + 1) (pc' := 1172) rfl dL_law_1171 ((pF 0 (by omega) (by omega) (by omega)).trans hs) rfl (by omega) (by omega) ?_
  have hQ2 := hQ.fr (fun i a b => pF i (by omega) (by omega) (by omega))
  obtain ⟨ρ, τ, hM, hA⟩ := id hQ2
  refine sw_V (M' := MX5_drop) (d' := d - 1) (bc' := 1) (bs' := 12) (ci := 6) (as := [_]) dL_law_1172 w_1379 ok_X5_drop (q_drop hQ2 (hV.iv hN) (by omega) (by omega) (Nat.le_refl _) (Nat.le_refl _)) hM.ob rfl (by omega) (Nat.le_of_ble_eq_true rfl) (by omega) (by omega) (fun E h' n' _ z => pmc_x z) (pmc_k ox_drop (fun u un ub uk uv uR uF => ?_))
  refine sw_istore (pc' := 1177) (lv' := [(6, _), (5, _), (4, _), (3, _), (2, _), (1, _), (0, _)]) rfl dL_law_1175 (by decide +kernel) rfl ?_
  refine sw_goto (tgt := 1945) dL_law_1177 (by decide +kernel) ?_
  have J : LI L xs u un (opDrop σ (xs (i + 1))).2 (N + 12) := ⟨pR.frT (fun i hi => uF i (by omega) (by omega)), ⟨_, uR⟩, hT.fr (fun i hi => (uF i (by omega) (by omega)).trans (pF i (by omega) (by omega) (by omega))), iv_drop hV, ⟨_, _, (uF 158 (by omega) (by omega)).trans pO⟩, (uF 0 (by omega) (by omega)).trans ((pF 0 (by omega) (by omega) (by omega)).trans hs), by omega⟩
  exact SW.pick [2, 3, 4, 5, 6] rfl ((K u un _ (by omega) J).bud (by omega) (by omega))
theorem lc_23 {L : Nat} {xs : Nat → Int32} {h : AH} {n i N d bc bs : Nat} {σ : CS} {Post : ARes → AH → Nat → Prop} (hI : LI L xs h n σ N) (hN : N < 2 ^ 31) (hL : L ≤ 3072) (hi : i + 6 ≤ L) (hd : 20 ≤ d) (h1 : 380 ≤ bc) (h2 : 4500 ≤ bs) (K : ∀ (h' : AH) (n' : Nat) (σ' : CS), n ≤ n' → LI L xs h' n' σ' (N + 12) → SW SR0 ML_law d (bc - 380) (bs - 4500) 1945 [(4, .int (nI i)), (3, .ref 158), (2, .ref 135), (1, .ref 100), (0, .ref 0)] [] h' n' Post) : SW SR0 ML_law d bc bs 1180 [(4, .int (nI i)), (3, .ref 158), (2, .ref 135), (1, .ref 100), (0, .ref 0)] [] h n Post := by
  obtain ⟨hR, ⟨th, hQ⟩, hT, hV, ⟨w, s, hO⟩, hs, hn⟩ := hI
  refine sw_aload_n (pc' := 1181) rfl dL_law_1180 rfl ?_
  refine sw_aload_n (pc' := 1182) rfl dL_law_1181 rfl ?_
  refine sw_iload (pc' := 1184) rfl dL_law_1182 rfl ?_
  refine sw_iconst (pc' := 1185) (v := 1) rfl dL_law_1184 (by decide +kernel) ?_
  refine sw_iadd (pc' := 1186) rfl dL_law_1185 ?_
  rw [show (nI i) + 1 = nI (i + 1) from nI_add _ _]
  refine sw_iald (j := i + 1) (pc' := 1187) rfl dL_law_1186 hs rfl (by omega) (by omega) ?_
  refine sw_aload_n (pc' := 1188) rfl dL_law_1187 rfl ?_
  refine sw_iload (pc' := 1190) rfl dL_law_1188 rfl ?_
  refine sw_iconst (pc' := 1191) (v := 2) rfl dL_law_1190 (by decide +kernel) ?_
  refine sw_iadd (pc' := 1192) rfl dL_law_1191 ?_
  rw [show (nI i) + 2 = nI (i + 2) from nI_add _ _]
  refine sw_iald (j := i + 2) (pc' := 1193) rfl dL_law_1192 hs rfl (by omega) (by omega) ?_
  refine sw_aload_n (pc' := 1194) rfl dL_law_1193 rfl ?_
  refine sw_S (M' := ML_skip) (d' := d - 1) (bc' := 60) (bs' := 400) (as := [_, _, _, _]) dL_law_1194 w_978 ok_L_skip (L_skip hR hT hV hN hO hn (by omega) (Nat.le_refl _) (Nat.le_refl _)) (by omega) (Nat.le_of_ble_eq_true rfl) (by omega) (by omega) (fun E h' n' _ z => lpo_x z) (lpo_k (fun p pn pw ps pk pR pO pv pF => ?_))
  refine sw_istore (pc' := 1199) (lv' := [(5, _), (4, _), (3, _), (2, _), (1, _), (0, _)]) rfl dL_law_1197 (by decide +kernel) rfl ?_
  refine sw_aload_n (pc' := 1200) rfl dL_law_1199 rfl ?_
  refine sw_aload_n (pc' := 1201) rfl dL_law_1200 rfl ?_
  refine sw_iload (pc' := 1203) rfl dL_law_1201 rfl ?_
  refine sw_iconst (pc' := 1204) (v := 1) rfl dL_law_1203 (by decide +kernel) ?_
  refine sw_iadd (pc' := 1205) rfl dL_law_1204 ?_
  rw [show (nI i) + 1 = nI (i + 1) from nI_add _ _]
  refine sw_iald (j := i + 1) (pc' := 1206) rfl dL_law_1205 ((pF 0 (by omega) (by omega) (by omega)).trans hs) rfl (by omega) (by omega) ?_
  refine sw_aload_n (pc' := 1207) rfl dL_law_1206 rfl ?_
  refine sw_iload (pc' := 1209) rfl dL_law_1207 rfl ?_
  refine sw_iconst (pc' := 1210) (v := 2) rfl dL_law_1209 (by decide +kernel) ?_
  refine sw_iadd (pc' := 1211) rfl dL_law_1210 ?_
  rw [show (nI i) + 2 = nI (i + 2) from nI_add _ _]
  refine sw_iald (j := i + 2) (pc' := 1212) rfl dL_law_1211 ((pF 0 (by omega) (by omega) (by omega)).trans hs) rfl (by omega) (by omega) ?_
  have hQ2 := hQ.fr (fun i a b => pF i (by omega) (by omega) (by omega))
  obtain ⟨ρ, τ, hM, hA⟩ := id hQ2
  refine sw_V (M' := MX5_skip) (d' := d - 1) (bc' := 1) (bs' := 12) (ci := 6) (as := [_, _]) dL_law_1212 w_1383 ok_X5_skip (q_skip hQ2 (hV.iv hN) (by omega) (by omega) (Nat.le_refl _) (Nat.le_refl _)) hM.ob rfl (by omega) (Nat.le_of_ble_eq_true rfl) (by omega) (by omega) (fun E h' n' _ z => pmc_x z) (pmc_k ox_skip (fun u un ub uk uv uR uF => ?_))
  refine sw_istore (pc' := 1217) (lv' := [(6, _), (5, _), (4, _), (3, _), (2, _), (1, _), (0, _)]) rfl dL_law_1215 (by decide +kernel) rfl ?_
  refine sw_goto (tgt := 1945) dL_law_1217 (by decide +kernel) ?_
  have J : LI L xs u un (opSkip σ (xs (i + 1)) (xs (i + 2))).2 (N + 12) := ⟨pR.frT (fun i hi => uF i (by omega) (by omega)), ⟨_, uR⟩, hT.fr (fun i hi => (uF i (by omega) (by omega)).trans (pF i (by omega) (by omega) (by omega))), iv_skip hV, ⟨_, _, (uF 158 (by omega) (by omega)).trans pO⟩, (uF 0 (by omega) (by omega)).trans ((pF 0 (by omega) (by omega) (by omega)).trans hs), by omega⟩
  exact SW.pick [2, 3, 4, 5, 6] rfl ((K u un _ (by omega) J).bud (by omega) (by omega))
theorem lc_24 {L : Nat} {xs : Nat → Int32} {h : AH} {n i N d bc bs : Nat} {σ : CS} {Post : ARes → AH → Nat → Prop} (hI : LI L xs h n σ N) (hN : N < 2 ^ 31) (hL : L ≤ 3072) (hi : i + 6 ≤ L) (hd : 20 ≤ d) (h1 : 380 ≤ bc) (h2 : 4500 ≤ bs) (K : ∀ (h' : AH) (n' : Nat) (σ' : CS), n ≤ n' → LI L xs h' n' σ' (N + 12) → SW SR0 ML_law d (bc - 380) (bs - 4500) 1945 [(4, .int (nI i)), (3, .ref 158), (2, .ref 135), (1, .ref 100), (0, .ref 0)] [] h' n' Post) : SW SR0 ML_law d bc bs 1220 [(4, .int (nI i)), (3, .ref 158), (2, .ref 135), (1, .ref 100), (0, .ref 0)] [] h n Post := by
  obtain ⟨hR, ⟨th, hQ⟩, hT, hV, ⟨w, s, hO⟩, hs, hn⟩ := hI
  refine sw_aload_n (pc' := 1221) rfl dL_law_1220 rfl ?_
  refine sw_aload_n (pc' := 1222) rfl dL_law_1221 rfl ?_
  refine sw_iload (pc' := 1224) rfl dL_law_1222 rfl ?_
  refine sw_iconst (pc' := 1225) (v := 1) rfl dL_law_1224 (by decide +kernel) ?_
  refine sw_iadd (pc' := 1226) rfl dL_law_1225 ?_
  rw [show (nI i) + 1 = nI (i + 1) from nI_add _ _]
  refine sw_iald (j := i + 1) (pc' := 1227) rfl dL_law_1226 hs rfl (by omega) (by omega) ?_
  refine sw_aload_n (pc' := 1228) rfl dL_law_1227 rfl ?_
  refine sw_iload (pc' := 1230) rfl dL_law_1228 rfl ?_
  refine sw_iconst (pc' := 1231) (v := 2) rfl dL_law_1230 (by decide +kernel) ?_
  refine sw_iadd (pc' := 1232) rfl dL_law_1231 ?_
  rw [show (nI i) + 2 = nI (i + 2) from nI_add _ _]
  refine sw_iald (j := i + 2) (pc' := 1233) rfl dL_law_1232 hs rfl (by omega) (by omega) ?_
  refine sw_aload_n (pc' := 1234) rfl dL_law_1233 rfl ?_
  refine sw_S (M' := ML_pourRest) (d' := d - 1) (bc' := 60) (bs' := 400) (as := [_, _, _, _]) dL_law_1234 w_985 ok_L_pourRest (L_pourRest hR hT hV hN hO hn (by omega) (Nat.le_refl _) (Nat.le_refl _)) (by omega) (Nat.le_of_ble_eq_true rfl) (by omega) (by omega) (fun E h' n' _ z => lpo_x z) (lpo_k (fun p pn pw ps pk pR pO pv pF => ?_))
  refine sw_istore (pc' := 1239) (lv' := [(5, _), (4, _), (3, _), (2, _), (1, _), (0, _)]) rfl dL_law_1237 (by decide +kernel) rfl ?_
  refine sw_aload_n (pc' := 1240) rfl dL_law_1239 rfl ?_
  refine sw_aload_n (pc' := 1241) rfl dL_law_1240 rfl ?_
  refine sw_iload (pc' := 1243) rfl dL_law_1241 rfl ?_
  refine sw_iconst (pc' := 1244) (v := 1) rfl dL_law_1243 (by decide +kernel) ?_
  refine sw_iadd (pc' := 1245) rfl dL_law_1244 ?_
  rw [show (nI i) + 1 = nI (i + 1) from nI_add _ _]
  refine sw_iald (j := i + 1) (pc' := 1246) rfl dL_law_1245 ((pF 0 (by omega) (by omega) (by omega)).trans hs) rfl (by omega) (by omega) ?_
  refine sw_aload_n (pc' := 1247) rfl dL_law_1246 rfl ?_
  refine sw_iload (pc' := 1249) rfl dL_law_1247 rfl ?_
  refine sw_iconst (pc' := 1250) (v := 2) rfl dL_law_1249 (by decide +kernel) ?_
  refine sw_iadd (pc' := 1251) rfl dL_law_1250 ?_
  rw [show (nI i) + 2 = nI (i + 2) from nI_add _ _]
  refine sw_iald (j := i + 2) (pc' := 1252) rfl dL_law_1251 ((pF 0 (by omega) (by omega) (by omega)).trans hs) rfl (by omega) (by omega) ?_
  have hQ2 := hQ.fr (fun i a b => pF i (by omega) (by omega) (by omega))
  obtain ⟨ρ, τ, hM, hA⟩ := id hQ2
  refine sw_V (M' := MX5_pourRest) (d' := d - 1) (bc' := 1) (bs' := 12) (ci := 6) (as := [_, _]) dL_law_1252 w_1387 ok_X5_pourRest (q_pourRest hQ2 (hV.iv hN) (by omega) (by omega) (Nat.le_refl _) (Nat.le_refl _)) hM.ob rfl (by omega) (Nat.le_of_ble_eq_true rfl) (by omega) (by omega) (fun E h' n' _ z => pmc_x z) (pmc_k ox_pourRest (fun u un ub uk uv uR uF => ?_))
  refine sw_istore (pc' := 1257) (lv' := [(6, _), (5, _), (4, _), (3, _), (2, _), (1, _), (0, _)]) rfl dL_law_1255 (by decide +kernel) rfl ?_
  refine sw_goto (tgt := 1945) dL_law_1257 (by decide +kernel) ?_
  have J : LI L xs u un (opPourRest σ (xs (i + 1)) (xs (i + 2))).2 (N + 12) := ⟨pR.frT (fun i hi => uF i (by omega) (by omega)), ⟨_, uR⟩, hT.fr (fun i hi => (uF i (by omega) (by omega)).trans (pF i (by omega) (by omega) (by omega))), iv_pourRest hV hN, ⟨_, _, (uF 158 (by omega) (by omega)).trans pO⟩, (uF 0 (by omega) (by omega)).trans ((pF 0 (by omega) (by omega) (by omega)).trans hs), by omega⟩
  exact SW.pick [2, 3, 4, 5, 6] rfl ((K u un _ (by omega) J).bud (by omega) (by omega))
theorem lc_25 {L : Nat} {xs : Nat → Int32} {h : AH} {n i N d bc bs : Nat} {σ : CS} {Post : ARes → AH → Nat → Prop} (hI : LI L xs h n σ N) (hN : N < 2 ^ 31) (hL : L ≤ 3072) (hi : i + 6 ≤ L) (hd : 20 ≤ d) (h1 : 380 ≤ bc) (h2 : 4500 ≤ bs) (K : ∀ (h' : AH) (n' : Nat) (σ' : CS), n ≤ n' → LI L xs h' n' σ' (N + 12) → SW SR0 ML_law d (bc - 380) (bs - 4500) 1945 [(4, .int (nI i)), (3, .ref 158), (2, .ref 135), (1, .ref 100), (0, .ref 0)] [] h' n' Post) : SW SR0 ML_law d bc bs 1260 [(4, .int (nI i)), (3, .ref 158), (2, .ref 135), (1, .ref 100), (0, .ref 0)] [] h n Post := by
  obtain ⟨hR, ⟨th, hQ⟩, hT, hV, ⟨w, s, hO⟩, hs, hn⟩ := hI
  refine sw_aload_n (pc' := 1261) rfl dL_law_1260 rfl ?_
  refine sw_aload_n (pc' := 1262) rfl dL_law_1261 rfl ?_
  refine sw_iload (pc' := 1264) rfl dL_law_1262 rfl ?_
  refine sw_iconst (pc' := 1265) (v := 1) rfl dL_law_1264 (by decide +kernel) ?_
  refine sw_iadd (pc' := 1266) rfl dL_law_1265 ?_
  rw [show (nI i) + 1 = nI (i + 1) from nI_add _ _]
  refine sw_iald (j := i + 1) (pc' := 1267) rfl dL_law_1266 hs rfl (by omega) (by omega) ?_
  refine sw_aload_n (pc' := 1268) rfl dL_law_1267 rfl ?_
  refine sw_iload (pc' := 1270) rfl dL_law_1268 rfl ?_
  refine sw_iconst (pc' := 1271) (v := 2) rfl dL_law_1270 (by decide +kernel) ?_
  refine sw_iadd (pc' := 1272) rfl dL_law_1271 ?_
  rw [show (nI i) + 2 = nI (i + 2) from nI_add _ _]
  refine sw_iald (j := i + 2) (pc' := 1273) rfl dL_law_1272 hs rfl (by omega) (by omega) ?_
  refine sw_aload_n (pc' := 1274) rfl dL_law_1273 rfl ?_
  refine sw_S (M' := ML_zip) (d' := d - 1) (bc' := 60) (bs' := 400) (as := [_, _, _, _]) dL_law_1274 w_992 ok_L_zip (L_zip hR hT hV hN hO hn (by omega) (Nat.le_refl _) (Nat.le_refl _)) (by omega) (Nat.le_of_ble_eq_true rfl) (by omega) (by omega) (fun E h' n' _ z => lpt_x z) (lpt_k (fun p pn pw ps pk pR pO pv pF => ?_))
  refine sw_istore (pc' := 1279) (lv' := [(5, _), (4, _), (3, _), (2, _), (1, _), (0, _)]) rfl dL_law_1277 (by decide +kernel) rfl ?_
  refine sw_aload_n (pc' := 1280) rfl dL_law_1279 rfl ?_
  refine sw_aload_n (pc' := 1281) rfl dL_law_1280 rfl ?_
  refine sw_iload (pc' := 1283) rfl dL_law_1281 rfl ?_
  refine sw_iconst (pc' := 1284) (v := 1) rfl dL_law_1283 (by decide +kernel) ?_
  refine sw_iadd (pc' := 1285) rfl dL_law_1284 ?_
  rw [show (nI i) + 1 = nI (i + 1) from nI_add _ _]
  refine sw_iald (j := i + 1) (pc' := 1286) rfl dL_law_1285 ((pF 0 (by omega) (by omega) (by omega)).trans hs) rfl (by omega) (by omega) ?_
  refine sw_aload_n (pc' := 1287) rfl dL_law_1286 rfl ?_
  refine sw_iload (pc' := 1289) rfl dL_law_1287 rfl ?_
  refine sw_iconst (pc' := 1290) (v := 2) rfl dL_law_1289 (by decide +kernel) ?_
  refine sw_iadd (pc' := 1291) rfl dL_law_1290 ?_
  rw [show (nI i) + 2 = nI (i + 2) from nI_add _ _]
  refine sw_iald (j := i + 2) (pc' := 1292) rfl dL_law_1291 ((pF 0 (by omega) (by omega) (by omega)).trans hs) rfl (by omega) (by omega) ?_
  have hQ2 := hQ.fr (fun i a b => pF i (by omega) (by omega) (by omega))
  obtain ⟨ρ, τ, hM, hA⟩ := id hQ2
  have pT := hT.fr (fun i hi => pF i (by omega) (by omega) (by omega))
  refine sw_V (M' := MX5_zip) (d' := d - 1) (bc' := 300) (bs' := 3400) (ci := 6) (as := [_, _]) dL_law_1292 w_1391 ok_X5_zip (q_zip hQ2 (hV.iv hN) (by omega) (by omega) (Nat.le_refl _) (Nat.le_refl _) pT hV hN) hM.ob rfl (by omega) (Nat.le_of_ble_eq_true rfl) (by omega) (by omega) (fun E h' n' _ z => ptc_x z) (ptl_k (fun u un ux uk uS uR uF => ?_))
  refine sw_astore (pc' := 1297) (lv' := [(6, _), (5, _), (4, _), (3, _), (2, _), (1, _), (0, _)]) rfl dL_law_1295 (by decide +kernel) rfl ?_
  refine sw_goto (tgt := 1945) dL_law_1297 (by decide +kernel) ?_
  have J : LI L xs u un (opZip σ (xs (i + 1)) (xs (i + 2))).2 (N + 12) := ⟨pR.frT (fun i hi => uF i (by omega) (by omega)), ⟨_, uR⟩, hT.fr (fun i hi => (uF i (by omega) (by omega)).trans (pF i (by omega) (by omega) (by omega))), iv_zip hV, ⟨_, _, (uF 158 (by omega) (by omega)).trans pO⟩, (uF 0 (by omega) (by omega)).trans ((pF 0 (by omega) (by omega) (by omega)).trans hs), by omega⟩
  exact SW.pick [2, 3, 4, 5, 6] rfl ((K u un _ (by omega) J).bud (by omega) (by omega))
theorem lc_26 {L : Nat} {xs : Nat → Int32} {h : AH} {n i N d bc bs : Nat} {σ : CS} {Post : ARes → AH → Nat → Prop} (hI : LI L xs h n σ N) (hN : N < 2 ^ 31) (hL : L ≤ 3072) (hi : i + 6 ≤ L) (hd : 20 ≤ d) (h1 : 380 ≤ bc) (h2 : 4500 ≤ bs) (K : ∀ (h' : AH) (n' : Nat) (σ' : CS), n ≤ n' → LI L xs h' n' σ' (N + 12) → SW SR0 ML_law d (bc - 380) (bs - 4500) 1945 [(4, .int (nI i)), (3, .ref 158), (2, .ref 135), (1, .ref 100), (0, .ref 0)] [] h' n' Post) : SW SR0 ML_law d bc bs 1300 [(4, .int (nI i)), (3, .ref 158), (2, .ref 135), (1, .ref 100), (0, .ref 0)] [] h n Post := by
  obtain ⟨hR, ⟨th, hQ⟩, hT, hV, ⟨w, s, hO⟩, hs, hn⟩ := hI
  refine sw_aload_n (pc' := 1301) rfl dL_law_1300 rfl ?_
  refine sw_aload_n (pc' := 1302) rfl dL_law_1301 rfl ?_
  refine sw_iload (pc' := 1304) rfl dL_law_1302 rfl ?_
  refine sw_iconst (pc' := 1305) (v := 1) rfl dL_law_1304 (by decide +kernel) ?_
  refine sw_iadd (pc' := 1306) rfl dL_law_1305 ?_
  rw [show (nI i) + 1 = nI (i + 1) from nI_add _ _]
  refine sw_iald (j := i + 1) (pc' := 1307) rfl dL_law_1306 hs rfl (by omega) (by omega) ?_
  refine sw_aload_n (pc' := 1308) rfl dL_law_1307 rfl ?_
  refine sw_S (M' := ML_text) (d' := d - 1) (bc' := 60) (bs' := 400) (as := [_, _, _]) dL_law_1308 w_1000 ok_L_text (L_text hR hT hV hN hO hn (by omega) (Nat.le_refl _) (Nat.le_refl _)) (by omega) (Nat.le_of_ble_eq_true rfl) (by omega) (by omega) (fun E h' n' _ z => lpt_x z) (lpt_k (fun p pn pw ps pk pR pO pv pF => ?_))
  refine sw_istore (pc' := 1313) (lv' := [(5, _), (4, _), (3, _), (2, _), (1, _), (0, _)]) rfl dL_law_1311 (by decide +kernel) rfl ?_
  refine sw_aload_n (pc' := 1314) rfl dL_law_1313 rfl ?_
  refine sw_aload_n (pc' := 1315) rfl dL_law_1314 rfl ?_
  refine sw_iload (pc' := 1317) rfl dL_law_1315 rfl ?_
  refine sw_iconst (pc' := 1318) (v := 1) rfl dL_law_1317 (by decide +kernel) ?_
  refine sw_iadd (pc' := 1319) rfl dL_law_1318 ?_
  rw [show (nI i) + 1 = nI (i + 1) from nI_add _ _]
  refine sw_iald (j := i + 1) (pc' := 1320) rfl dL_law_1319 ((pF 0 (by omega) (by omega) (by omega)).trans hs) rfl (by omega) (by omega) ?_
  have hQ2 := hQ.fr (fun i a b => pF i (by omega) (by omega) (by omega))
  obtain ⟨ρ, τ, hM, hA⟩ := id hQ2
  have pT := hT.fr (fun i hi => pF i (by omega) (by omega) (by omega))
  refine sw_V (M' := MX5_text_) (d' := d - 1) (bc' := 200) (bs' := 2800) (ci := 6) (as := [_]) dL_law_1320 w_1400 ok_X5_text_ (q_text hQ2 (hV.iv hN) (by omega) (by omega) (Nat.le_refl _) (Nat.le_refl _) pT) hM.ob rfl (by omega) (Nat.le_of_ble_eq_true rfl) (by omega) (by omega) (fun E h' n' _ z => ptc_x z) (ptl_k (fun u un ux uk uS uR uF => ?_))
  refine sw_astore (pc' := 1325) (lv' := [(6, _), (5, _), (4, _), (3, _), (2, _), (1, _), (0, _)]) rfl dL_law_1323 (by decide +kernel) rfl ?_
  refine sw_goto (tgt := 1945) dL_law_1325 (by decide +kernel) ?_
  have J : LI L xs u un (opText σ (xs (i + 1))).2 (N + 12) := ⟨pR.frT (fun i hi => uF i (by omega) (by omega)), ⟨_, uR⟩, hT.fr (fun i hi => (uF i (by omega) (by omega)).trans (pF i (by omega) (by omega) (by omega))), iv_text hV, ⟨_, _, (uF 158 (by omega) (by omega)).trans pO⟩, (uF 0 (by omega) (by omega)).trans ((pF 0 (by omega) (by omega) (by omega)).trans hs), by omega⟩
  exact SW.pick [2, 3, 4, 5, 6] rfl ((K u un _ (by omega) J).bud (by omega) (by omega))
theorem lc_27 {L : Nat} {xs : Nat → Int32} {h : AH} {n i N d bc bs : Nat} {σ : CS} {Post : ARes → AH → Nat → Prop} (hI : LI L xs h n σ N) (hN : N < 2 ^ 31) (hL : L ≤ 3072) (hi : i + 6 ≤ L) (hd : 20 ≤ d) (h1 : 380 ≤ bc) (h2 : 4500 ≤ bs) (K : ∀ (h' : AH) (n' : Nat) (σ' : CS), n ≤ n' → LI L xs h' n' σ' (N + 12) → SW SR0 ML_law d (bc - 380) (bs - 4500) 1945 [(4, .int (nI i)), (3, .ref 158), (2, .ref 135), (1, .ref 100), (0, .ref 0)] [] h' n' Post) : SW SR0 ML_law d bc bs 1328 [(4, .int (nI i)), (3, .ref 158), (2, .ref 135), (1, .ref 100), (0, .ref 0)] [] h n Post := by
  obtain ⟨hR, ⟨th, hQ⟩, hT, hV, ⟨w, s, hO⟩, hs, hn⟩ := hI
  refine sw_aload_n (pc' := 1329) rfl dL_law_1328 rfl ?_
  refine sw_aload_n (pc' := 1330) rfl dL_law_1329 rfl ?_
  refine sw_iload (pc' := 1332) rfl dL_law_1330 rfl ?_
  refine sw_iconst (pc' := 1333) (v := 1) rfl dL_law_1332 (by decide +kernel) ?_
  refine sw_iadd (pc' := 1334) rfl dL_law_1333 ?_
  rw [show (nI i) + 1 = nI (i + 1) from nI_add _ _]
  refine sw_iald (j := i + 1) (pc' := 1335) rfl dL_law_1334 hs rfl (by omega) (by omega) ?_
  refine sw_aload_n (pc' := 1336) rfl dL_law_1335 rfl ?_
  refine sw_S (M' := ML_list) (d' := d - 1) (bc' := 60) (bs' := 400) (as := [_, _, _]) dL_law_1336 w_1007 ok_L_list (L_list hR hT hV hN hO hn (by omega) (Nat.le_refl _) (Nat.le_refl _)) (by omega) (Nat.le_of_ble_eq_true rfl) (by omega) (by omega) (fun E h' n' _ z => lpt_x z) (lpt_k (fun p pn pw ps pk pR pO pv pF => ?_))
  refine sw_istore (pc' := 1341) (lv' := [(5, _), (4, _), (3, _), (2, _), (1, _), (0, _)]) rfl dL_law_1339 (by decide +kernel) rfl ?_
  refine sw_aload_n (pc' := 1342) rfl dL_law_1341 rfl ?_
  refine sw_aload_n (pc' := 1343) rfl dL_law_1342 rfl ?_
  refine sw_iload (pc' := 1345) rfl dL_law_1343 rfl ?_
  refine sw_iconst (pc' := 1346) (v := 1) rfl dL_law_1345 (by decide +kernel) ?_
  refine sw_iadd (pc' := 1347) rfl dL_law_1346 ?_
  rw [show (nI i) + 1 = nI (i + 1) from nI_add _ _]
  refine sw_iald (j := i + 1) (pc' := 1348) rfl dL_law_1347 ((pF 0 (by omega) (by omega) (by omega)).trans hs) rfl (by omega) (by omega) ?_
  have hQ2 := hQ.fr (fun i a b => pF i (by omega) (by omega) (by omega))
  obtain ⟨ρ, τ, hM, hA⟩ := id hQ2
  have pT := hT.fr (fun i hi => pF i (by omega) (by omega) (by omega))
  refine sw_V (M' := MX5_list) (d' := d - 1) (bc' := 200) (bs' := 2800) (ci := 6) (as := [_]) dL_law_1348 w_1404 ok_X5_list (q_list hQ2 (hV.iv hN) (by omega) (by omega) (Nat.le_refl _) (Nat.le_refl _) pT) hM.ob rfl (by omega) (Nat.le_of_ble_eq_true rfl) (by omega) (by omega) (fun E h' n' _ z => ptc_x z) (ptl_k (fun u un ux uk uS uR uF => ?_))
  refine sw_astore (pc' := 1353) (lv' := [(6, _), (5, _), (4, _), (3, _), (2, _), (1, _), (0, _)]) rfl dL_law_1351 (by decide +kernel) rfl ?_
  refine sw_aload_n (pc' := 1354) rfl dL_law_1353 rfl ?_
  obtain ⟨uρ, uτ, uM, uA⟩ := id uR
  refine sw_V (M' := MX5_thrown) (d' := d - 1) (bc' := 0) (bs' := 0) (ci := 6) (as := []) dL_law_1354 w_1157 ok_X5_thrown (q_thrown uM) uM.ob rfl (by omega) (Nat.le_of_ble_eq_true rfl) (Nat.zero_le _) (Nat.zero_le _) (fun E h' n' _ z => det_x z) (det_k ?_)
  refine sw_iload (pc' := 1359) rfl dL_law_1357 rfl ?_
  refine sw_icmp_eq (pc' := 1362) (tgt := 1364) rfl dL_law_1359 (by decide +kernel) (fun c1359 => ?_) (fun c1359 => ?_)
  · refine sw_iload (pc' := 1366) rfl dL_law_1364 rfl ?_
    refine sw_if_ne (pc' := 1369) (tgt := 1383) rfl dL_law_1366 (by decide +kernel) (fun c1366 => ?_) (fun c1366 => ?_)
    · refine sw_goto (tgt := 1945) dL_law_1383 (by decide +kernel) ?_
      have J : LI L xs u un (opText σ (xs (i + 1))).2 (N + 12) := ⟨pR.frT (fun i hi => uF i (by omega) (by omega)), ⟨_, uR⟩, hT.fr (fun i hi => (uF i (by omega) (by omega)).trans (pF i (by omega) (by omega) (by omega))), iv_text hV, ⟨_, _, (uF 158 (by omega) (by omega)).trans pO⟩, (uF 0 (by omega) (by omega)).trans ((pF 0 (by omega) (by omega) (by omega)).trans hs), by omega⟩
      exact SW.pick [2, 3, 4, 5, 6] rfl ((K u un _ (by omega) J).bud (by omega) (by omega))
    · refine sw_aload_n (pc' := 1370) rfl dL_law_1369 rfl ?_
      refine sw_getN (ci := 5) (k := 1) (pc' := 1373) rfl dL_law_1370 (by decide +kernel) v_348 ((uF 158 (by omega) (by omega)).trans pO) (by show 100 ≤ _; omega) rfl ?_
      refine sw_aload (pc' := 1375) rfl dL_law_1373 rfl ?_
      have e9 : (opText σ (xs (i + 1))).1 = ivN := ot_0 ot_list c1366
      obtain ⟨x1, L1, es, hL1, S1⟩ := pv e9
      subst es
      obtain ⟨L2, hL2, S2⟩ := uS e9
      have S3 := S1.fr (fun i a b => uF i (by omega) (by omega)) uk
      obtain ⟨v1, f1, r1, ht1, -⟩ := id S3
      refine sw_V (M' := MJ0_equals_9ea2d) (d' := d - 1) (bc' := 0) (bs' := 0) (ci := 0) (as := [_]) dL_law_1375 w_1485 ok_J0_equals_9ea2d (j_equals S3.st S2.st (by omega) (by omega)) ht1 rfl (by omega) (Nat.le_of_ble_eq_true rfl) (Nat.zero_le _) (Nat.zero_le _) (fun E h' n' _ z => det_x z) (det_k ?_)
      refine sw_if_ne (pc' := 1381) (tgt := 1383) rfl dL_law_1378 (by decide +kernel) (fun c1378 => ?_) (fun c1378 => ?_)
      · refine sw_goto (tgt := 1945) dL_law_1383 (by decide +kernel) ?_
        have J : LI L xs u un (opText σ (xs (i + 1))).2 (N + 12) := ⟨pR.frT (fun i hi => uF i (by omega) (by omega)), ⟨_, uR⟩, hT.fr (fun i hi => (uF i (by omega) (by omega)).trans (pF i (by omega) (by omega) (by omega))), iv_text hV, ⟨_, _, (uF 158 (by omega) (by omega)).trans pO⟩, (uF 0 (by omega) (by omega)).trans ((pF 0 (by omega) (by omega) (by omega)).trans hs), by omega⟩
        exact SW.pick [2, 3, 4, 5, 6] rfl ((K u un _ (by omega) J).bud (by omega) (by omega))
      · exact absurd c1378 (by decide +kernel)
  · exact absurd rfl c1359
theorem lc_28 {L : Nat} {xs : Nat → Int32} {h : AH} {n i N d bc bs : Nat} {σ : CS} {Post : ARes → AH → Nat → Prop} (hI : LI L xs h n σ N) (hN : N < 2 ^ 31) (hL : L ≤ 3072) (hi : i + 6 ≤ L) (hd : 20 ≤ d) (h1 : 380 ≤ bc) (h2 : 4500 ≤ bs) (K : ∀ (h' : AH) (n' : Nat) (σ' : CS), n ≤ n' → LI L xs h' n' σ' (N + 12) → SW SR0 ML_law d (bc - 380) (bs - 4500) 1945 [(4, .int (nI i)), (3, .ref 158), (2, .ref 135), (1, .ref 100), (0, .ref 0)] [] h' n' Post) : SW SR0 ML_law d bc bs 1386 [(4, .int (nI i)), (3, .ref 158), (2, .ref 135), (1, .ref 100), (0, .ref 0)] [] h n Post := by
  obtain ⟨hR, ⟨th, hQ⟩, hT, hV, ⟨w, s, hO⟩, hs, hn⟩ := hI
  refine sw_aload_n (pc' := 1387) rfl dL_law_1386 rfl ?_
  refine sw_aload_n (pc' := 1388) rfl dL_law_1387 rfl ?_
  refine sw_iload (pc' := 1390) rfl dL_law_1388 rfl ?_
  refine sw_iconst (pc' := 1391) (v := 1) rfl dL_law_1390 (by decide +kernel) ?_
  refine sw_iadd (pc' := 1392) rfl dL_law_1391 ?_
  rw [show (nI i) + 1 = nI (i + 1) from nI_add _ _]
  refine sw_iald (j := i + 1) (pc' := 1393) rfl dL_law_1392 hs rfl (by omega) (by omega) ?_
  refine sw_aload_n (pc' := 1394) rfl dL_law_1393 rfl ?_
  refine sw_S (M' := ML_size) (d' := d - 1) (bc' := 60) (bs' := 400) (as := [_, _, _]) dL_law_1394 w_1014 ok_L_size (L_size hR hT hV hN hO hn (by omega) (Nat.le_refl _) (Nat.le_refl _)) (by omega) (Nat.le_of_ble_eq_true rfl) (by omega) (by omega) (fun E h' n' _ z => lpo_x z) (lpo_k (fun p pn pw ps pk pR pO pv pF => ?_))
  refine sw_istore (pc' := 1399) (lv' := [(5, _), (4, _), (3, _), (2, _), (1, _), (0, _)]) rfl dL_law_1397 (by decide +kernel) rfl ?_
  refine sw_aload_n (pc' := 1400) rfl dL_law_1399 rfl ?_
  refine sw_aload_n (pc' := 1401) rfl dL_law_1400 rfl ?_
  refine sw_iload (pc' := 1403) rfl dL_law_1401 rfl ?_
  refine sw_iconst (pc' := 1404) (v := 1) rfl dL_law_1403 (by decide +kernel) ?_
  refine sw_iadd (pc' := 1405) rfl dL_law_1404 ?_
  rw [show (nI i) + 1 = nI (i + 1) from nI_add _ _]
  refine sw_iald (j := i + 1) (pc' := 1406) rfl dL_law_1405 ((pF 0 (by omega) (by omega) (by omega)).trans hs) rfl (by omega) (by omega) ?_
  have hQ2 := hQ.fr (fun i a b => pF i (by omega) (by omega) (by omega))
  obtain ⟨ρ, τ, hM, hA⟩ := id hQ2
  refine sw_V (M' := MX5_size) (d' := d - 1) (bc' := 1) (bs' := 12) (ci := 6) (as := [_]) dL_law_1406 w_1409 ok_X5_size (q_size hQ2 (hV.iv hN) (by omega) (by omega) (Nat.le_refl _) (Nat.le_refl _)) hM.ob rfl (by omega) (Nat.le_of_ble_eq_true rfl) (by omega) (by omega) (fun E h' n' _ z => pmc_x z) (pmc_k ox_size (fun u un ub uk uv uR uF => ?_))
  refine sw_istore (pc' := 1411) (lv' := [(6, _), (5, _), (4, _), (3, _), (2, _), (1, _), (0, _)]) rfl dL_law_1409 (by decide +kernel) rfl ?_
  refine sw_goto (tgt := 1945) dL_law_1411 (by decide +kernel) ?_
  have J : LI L xs u un (opSize σ (xs (i + 1))).2 (N + 12) := ⟨pR.frT (fun i hi => uF i (by omega) (by omega)), ⟨_, uR⟩, hT.fr (fun i hi => (uF i (by omega) (by omega)).trans (pF i (by omega) (by omega) (by omega))), iv_size hV, ⟨_, _, (uF 158 (by omega) (by omega)).trans pO⟩, (uF 0 (by omega) (by omega)).trans ((pF 0 (by omega) (by omega) (by omega)).trans hs), by omega⟩
  exact SW.pick [2, 3, 4, 5, 6] rfl ((K u un _ (by omega) J).bud (by omega) (by omega))
theorem lc_29 {L : Nat} {xs : Nat → Int32} {h : AH} {n i N d bc bs : Nat} {σ : CS} {Post : ARes → AH → Nat → Prop} (hI : LI L xs h n σ N) (hN : N < 2 ^ 31) (hL : L ≤ 3072) (hi : i + 6 ≤ L) (hd : 20 ≤ d) (h1 : 380 ≤ bc) (h2 : 4500 ≤ bs) (K : ∀ (h' : AH) (n' : Nat) (σ' : CS), n ≤ n' → LI L xs h' n' σ' (N + 12) → SW SR0 ML_law d (bc - 380) (bs - 4500) 1945 [(4, .int (nI i)), (3, .ref 158), (2, .ref 135), (1, .ref 100), (0, .ref 0)] [] h' n' Post) : SW SR0 ML_law d bc bs 1414 [(4, .int (nI i)), (3, .ref 158), (2, .ref 135), (1, .ref 100), (0, .ref 0)] [] h n Post := by
  obtain ⟨hR, ⟨th, hQ⟩, hT, hV, ⟨w, s, hO⟩, hs, hn⟩ := hI
  refine sw_aload_n (pc' := 1415) rfl dL_law_1414 rfl ?_
  refine sw_aload_n (pc' := 1416) rfl dL_law_1415 rfl ?_
  refine sw_iload (pc' := 1418) rfl dL_law_1416 rfl ?_
  refine sw_iconst (pc' := 1419) (v := 1) rfl dL_law_1418 (by decide +kernel) ?_
  refine sw_iadd (pc' := 1420) rfl dL_law_1419 ?_
  rw [show (nI i) + 1 = nI (i + 1) from nI_add _ _]
  refine sw_iald (j := i + 1) (pc' := 1421) rfl dL_law_1420 hs rfl (by omega) (by omega) ?_
  refine sw_aload_n (pc' := 1422) rfl dL_law_1421 rfl ?_
  refine sw_S (M' := ML_isEmpty) (d' := d - 1) (bc' := 60) (bs' := 400) (as := [_, _, _]) dL_law_1422 w_1021 ok_L_isEmpty (L_isEmpty hR hT hV hN hO hn (by omega) (Nat.le_refl _) (Nat.le_refl _)) (by omega) (Nat.le_of_ble_eq_true rfl) (by omega) (by omega) (fun E h' n' _ z => lpo_x z) (lpo_k (fun p pn pw ps pk pR pO pv pF => ?_))
  refine sw_istore (pc' := 1427) (lv' := [(5, _), (4, _), (3, _), (2, _), (1, _), (0, _)]) rfl dL_law_1425 (by decide +kernel) rfl ?_
  refine sw_aload_n (pc' := 1428) rfl dL_law_1427 rfl ?_
  refine sw_aload_n (pc' := 1429) rfl dL_law_1428 rfl ?_
  refine sw_iload (pc' := 1431) rfl dL_law_1429 rfl ?_
  refine sw_iconst (pc' := 1432) (v := 1) rfl dL_law_1431 (by decide +kernel) ?_
  refine sw_iadd (pc' := 1433) rfl dL_law_1432 ?_
  rw [show (nI i) + 1 = nI (i + 1) from nI_add _ _]
  refine sw_iald (j := i + 1) (pc' := 1434) rfl dL_law_1433 ((pF 0 (by omega) (by omega) (by omega)).trans hs) rfl (by omega) (by omega) ?_
  have hQ2 := hQ.fr (fun i a b => pF i (by omega) (by omega) (by omega))
  obtain ⟨ρ, τ, hM, hA⟩ := id hQ2
  refine sw_V (M' := MX5_isEmpty) (d' := d - 1) (bc' := 1) (bs' := 12) (ci := 6) (as := [_]) dL_law_1434 w_1413 ok_X5_isEmpty (q_isEmpty hQ2 (hV.iv hN) (by omega) (by omega) (Nat.le_refl _) (Nat.le_refl _)) hM.ob rfl (by omega) (Nat.le_of_ble_eq_true rfl) (by omega) (by omega) (fun E h' n' _ z => pmc_x z) (pmc_k ox_isEmpty (fun u un ub uk uv uR uF => ?_))
  refine sw_istore (pc' := 1439) (lv' := [(6, _), (5, _), (4, _), (3, _), (2, _), (1, _), (0, _)]) rfl dL_law_1437 (by decide +kernel) rfl ?_
  refine sw_goto (tgt := 1945) dL_law_1439 (by decide +kernel) ?_
  have J : LI L xs u un (opIsEmpty σ (xs (i + 1))).2 (N + 12) := ⟨pR.frT (fun i hi => uF i (by omega) (by omega)), ⟨_, uR⟩, hT.fr (fun i hi => (uF i (by omega) (by omega)).trans (pF i (by omega) (by omega) (by omega))), iv_isEmpty hV, ⟨_, _, (uF 158 (by omega) (by omega)).trans pO⟩, (uF 0 (by omega) (by omega)).trans ((pF 0 (by omega) (by omega) (by omega)).trans hs), by omega⟩
  exact SW.pick [2, 3, 4, 5, 6] rfl ((K u un _ (by omega) J).bud (by omega) (by omega))
theorem lc_30 {L : Nat} {xs : Nat → Int32} {h : AH} {n i N d bc bs : Nat} {σ : CS} {Post : ARes → AH → Nat → Prop} (hI : LI L xs h n σ N) (hN : N < 2 ^ 31) (hL : L ≤ 3072) (hi : i + 6 ≤ L) (hd : 20 ≤ d) (h1 : 380 ≤ bc) (h2 : 4500 ≤ bs) (K : ∀ (h' : AH) (n' : Nat) (σ' : CS), n ≤ n' → LI L xs h' n' σ' (N + 12) → SW SR0 ML_law d (bc - 380) (bs - 4500) 1945 [(4, .int (nI i)), (3, .ref 158), (2, .ref 135), (1, .ref 100), (0, .ref 0)] [] h' n' Post) : SW SR0 ML_law d bc bs 1442 [(4, .int (nI i)), (3, .ref 158), (2, .ref 135), (1, .ref 100), (0, .ref 0)] [] h n Post := by
  obtain ⟨hR, ⟨th, hQ⟩, hT, hV, ⟨w, s, hO⟩, hs, hn⟩ := hI
  refine sw_aload_n (pc' := 1443) rfl dL_law_1442 rfl ?_
  refine sw_aload_n (pc' := 1444) rfl dL_law_1443 rfl ?_
  refine sw_iload (pc' := 1446) rfl dL_law_1444 rfl ?_
  refine sw_iconst (pc' := 1447) (v := 1) rfl dL_law_1446 (by decide +kernel) ?_
  refine sw_iadd (pc' := 1448) rfl dL_law_1447 ?_
  rw [show (nI i) + 1 = nI (i + 1) from nI_add _ _]
  refine sw_iald (j := i + 1) (pc' := 1449) rfl dL_law_1448 hs rfl (by omega) (by omega) ?_
  refine sw_aload_n (pc' := 1450) rfl dL_law_1449 rfl ?_
  refine sw_iload (pc' := 1452) rfl dL_law_1450 rfl ?_
  refine sw_iconst (pc' := 1453) (v := 2) rfl dL_law_1452 (by decide +kernel) ?_
  refine sw_iadd (pc' := 1454) rfl dL_law_1453 ?_
  rw [show (nI i) + 2 = nI (i + 2) from nI_add _ _]
  refine sw_iald (j := i + 2) (pc' := 1455) rfl dL_law_1454 hs rfl (by omega) (by omega) ?_
  refine sw_aload_n (pc' := 1456) rfl dL_law_1455 rfl ?_
  refine sw_S (M' := ML_has) (d' := d - 1) (bc' := 60) (bs' := 400) (as := [_, _, _, _]) dL_law_1456 w_1028 ok_L_has (L_has hR hT hV hN hO hn (by omega) (Nat.le_refl _) (Nat.le_refl _)) (by omega) (Nat.le_of_ble_eq_true rfl) (by omega) (by omega) (fun E h' n' _ z => lpo_x z) (lpo_k (fun p pn pw ps pk pR pO pv pF => ?_))
  refine sw_istore (pc' := 1461) (lv' := [(5, _), (4, _), (3, _), (2, _), (1, _), (0, _)]) rfl dL_law_1459 (by decide +kernel) rfl ?_
  refine sw_aload_n (pc' := 1462) rfl dL_law_1461 rfl ?_
  refine sw_aload_n (pc' := 1463) rfl dL_law_1462 rfl ?_
  refine sw_iload (pc' := 1465) rfl dL_law_1463 rfl ?_
  refine sw_iconst (pc' := 1466) (v := 1) rfl dL_law_1465 (by decide +kernel) ?_
  refine sw_iadd (pc' := 1467) rfl dL_law_1466 ?_
  rw [show (nI i) + 1 = nI (i + 1) from nI_add _ _]
  refine sw_iald (j := i + 1) (pc' := 1468) rfl dL_law_1467 ((pF 0 (by omega) (by omega) (by omega)).trans hs) rfl (by omega) (by omega) ?_
  refine sw_aload_n (pc' := 1469) rfl dL_law_1468 rfl ?_
  refine sw_iload (pc' := 1471) rfl dL_law_1469 rfl ?_
  refine sw_iconst (pc' := 1472) (v := 2) rfl dL_law_1471 (by decide +kernel) ?_
  refine sw_iadd (pc' := 1473) rfl dL_law_1472 ?_
  rw [show (nI i) + 2 = nI (i + 2) from nI_add _ _]
  refine sw_iald (j := i + 2) (pc' := 1474) rfl dL_law_1473 ((pF 0 (by omega) (by omega) (by omega)).trans hs) rfl (by omega) (by omega) ?_
  have hQ2 := hQ.fr (fun i a b => pF i (by omega) (by omega) (by omega))
  obtain ⟨ρ, τ, hM, hA⟩ := id hQ2
  refine sw_V (M' := MX5_has) (d' := d - 1) (bc' := 1) (bs' := 12) (ci := 6) (as := [_, _]) dL_law_1474 w_1417 ok_X5_has (q_has hQ2 (hV.iv hN) (by omega) (by omega) (Nat.le_refl _) (Nat.le_refl _)) hM.ob rfl (by omega) (Nat.le_of_ble_eq_true rfl) (by omega) (by omega) (fun E h' n' _ z => pmc_x z) (pmc_k ox_has (fun u un ub uk uv uR uF => ?_))
  refine sw_istore (pc' := 1479) (lv' := [(6, _), (5, _), (4, _), (3, _), (2, _), (1, _), (0, _)]) rfl dL_law_1477 (by decide +kernel) rfl ?_
  refine sw_goto (tgt := 1945) dL_law_1479 (by decide +kernel) ?_
  have J : LI L xs u un (opHas σ (xs (i + 1)) (xs (i + 2))).2 (N + 12) := ⟨pR.frT (fun i hi => uF i (by omega) (by omega)), ⟨_, uR⟩, hT.fr (fun i hi => (uF i (by omega) (by omega)).trans (pF i (by omega) (by omega) (by omega))), iv_has hV, ⟨_, _, (uF 158 (by omega) (by omega)).trans pO⟩, (uF 0 (by omega) (by omega)).trans ((pF 0 (by omega) (by omega) (by omega)).trans hs), by omega⟩
  exact SW.pick [2, 3, 4, 5, 6] rfl ((K u un _ (by omega) J).bud (by omega) (by omega))
theorem lc_31 {L : Nat} {xs : Nat → Int32} {h : AH} {n i N d bc bs : Nat} {σ : CS} {Post : ARes → AH → Nat → Prop} (hI : LI L xs h n σ N) (hN : N < 2 ^ 31) (hL : L ≤ 3072) (hi : i + 6 ≤ L) (hd : 20 ≤ d) (h1 : 380 ≤ bc) (h2 : 4500 ≤ bs) (K : ∀ (h' : AH) (n' : Nat) (σ' : CS), n ≤ n' → LI L xs h' n' σ' (N + 12) → SW SR0 ML_law d (bc - 380) (bs - 4500) 1945 [(4, .int (nI i)), (3, .ref 158), (2, .ref 135), (1, .ref 100), (0, .ref 0)] [] h' n' Post) : SW SR0 ML_law d bc bs 1482 [(4, .int (nI i)), (3, .ref 158), (2, .ref 135), (1, .ref 100), (0, .ref 0)] [] h n Post := by
  obtain ⟨hR, ⟨th, hQ⟩, hT, hV, ⟨w, s, hO⟩, hs, hn⟩ := hI
  refine sw_aload_n (pc' := 1483) rfl dL_law_1482 rfl ?_
  refine sw_aload_n (pc' := 1484) rfl dL_law_1483 rfl ?_
  refine sw_iload (pc' := 1486) rfl dL_law_1484 rfl ?_
  refine sw_iconst (pc' := 1487) (v := 1) rfl dL_law_1486 (by decide +kernel) ?_
  refine sw_iadd (pc' := 1488) rfl dL_law_1487 ?_
  rw [show (nI i) + 1 = nI (i + 1) from nI_add _ _]
  refine sw_iald (j := i + 1) (pc' := 1489) rfl dL_law_1488 hs rfl (by omega) (by omega) ?_
  refine sw_aload_n (pc' := 1490) rfl dL_law_1489 rfl ?_
  refine sw_iload (pc' := 1492) rfl dL_law_1490 rfl ?_
  refine sw_iconst (pc' := 1493) (v := 2) rfl dL_law_1492 (by decide +kernel) ?_
  refine sw_iadd (pc' := 1494) rfl dL_law_1493 ?_
  rw [show (nI i) + 2 = nI (i + 2) from nI_add _ _]
  refine sw_iald (j := i + 2) (pc' := 1495) rfl dL_law_1494 hs rfl (by omega) (by omega) ?_
  refine sw_aload_n (pc' := 1496) rfl dL_law_1495 rfl ?_
  refine sw_S (M' := ML_often) (d' := d - 1) (bc' := 60) (bs' := 400) (as := [_, _, _, _]) dL_law_1496 w_1035 ok_L_often (L_often hR hT hV hN hO hn (by omega) (Nat.le_refl _) (Nat.le_refl _)) (by omega) (Nat.le_of_ble_eq_true rfl) (by omega) (by omega) (fun E h' n' _ z => lpo_x z) (lpo_k (fun p pn pw ps pk pR pO pv pF => ?_))
  refine sw_istore (pc' := 1501) (lv' := [(5, _), (4, _), (3, _), (2, _), (1, _), (0, _)]) rfl dL_law_1499 (by decide +kernel) rfl ?_
  refine sw_aload_n (pc' := 1502) rfl dL_law_1501 rfl ?_
  refine sw_aload_n (pc' := 1503) rfl dL_law_1502 rfl ?_
  refine sw_iload (pc' := 1505) rfl dL_law_1503 rfl ?_
  refine sw_iconst (pc' := 1506) (v := 1) rfl dL_law_1505 (by decide +kernel) ?_
  refine sw_iadd (pc' := 1507) rfl dL_law_1506 ?_
  rw [show (nI i) + 1 = nI (i + 1) from nI_add _ _]
  refine sw_iald (j := i + 1) (pc' := 1508) rfl dL_law_1507 ((pF 0 (by omega) (by omega) (by omega)).trans hs) rfl (by omega) (by omega) ?_
  refine sw_aload_n (pc' := 1509) rfl dL_law_1508 rfl ?_
  refine sw_iload (pc' := 1511) rfl dL_law_1509 rfl ?_
  refine sw_iconst (pc' := 1512) (v := 2) rfl dL_law_1511 (by decide +kernel) ?_
  refine sw_iadd (pc' := 1513) rfl dL_law_1512 ?_
  rw [show (nI i) + 2 = nI (i + 2) from nI_add _ _]
  refine sw_iald (j := i + 2) (pc' := 1514) rfl dL_law_1513 ((pF 0 (by omega) (by omega) (by omega)).trans hs) rfl (by omega) (by omega) ?_
  have hQ2 := hQ.fr (fun i a b => pF i (by omega) (by omega) (by omega))
  obtain ⟨ρ, τ, hM, hA⟩ := id hQ2
  refine sw_V (M' := MX5_often) (d' := d - 1) (bc' := 1) (bs' := 12) (ci := 6) (as := [_, _]) dL_law_1514 w_1421 ok_X5_often (q_often hQ2 (hV.iv hN) (by omega) (by omega) (Nat.le_refl _) (Nat.le_refl _)) hM.ob rfl (by omega) (Nat.le_of_ble_eq_true rfl) (by omega) (by omega) (fun E h' n' _ z => pmc_x z) (pmc_k ox_often (fun u un ub uk uv uR uF => ?_))
  refine sw_istore (pc' := 1519) (lv' := [(6, _), (5, _), (4, _), (3, _), (2, _), (1, _), (0, _)]) rfl dL_law_1517 (by decide +kernel) rfl ?_
  refine sw_goto (tgt := 1945) dL_law_1519 (by decide +kernel) ?_
  have J : LI L xs u un (opOften σ (xs (i + 1)) (xs (i + 2))).2 (N + 12) := ⟨pR.frT (fun i hi => uF i (by omega) (by omega)), ⟨_, uR⟩, hT.fr (fun i hi => (uF i (by omega) (by omega)).trans (pF i (by omega) (by omega) (by omega))), iv_often hV, ⟨_, _, (uF 158 (by omega) (by omega)).trans pO⟩, (uF 0 (by omega) (by omega)).trans ((pF 0 (by omega) (by omega) (by omega)).trans hs), by omega⟩
  exact SW.pick [2, 3, 4, 5, 6] rfl ((K u un _ (by omega) J).bud (by omega) (by omega))
theorem lc_32 {L : Nat} {xs : Nat → Int32} {h : AH} {n i N d bc bs : Nat} {σ : CS} {Post : ARes → AH → Nat → Prop} (hI : LI L xs h n σ N) (hN : N < 2 ^ 31) (hL : L ≤ 3072) (hi : i + 6 ≤ L) (hd : 20 ≤ d) (h1 : 380 ≤ bc) (h2 : 4500 ≤ bs) (K : ∀ (h' : AH) (n' : Nat) (σ' : CS), n ≤ n' → LI L xs h' n' σ' (N + 12) → SW SR0 ML_law d (bc - 380) (bs - 4500) 1945 [(4, .int (nI i)), (3, .ref 158), (2, .ref 135), (1, .ref 100), (0, .ref 0)] [] h' n' Post) : SW SR0 ML_law d bc bs 1522 [(4, .int (nI i)), (3, .ref 158), (2, .ref 135), (1, .ref 100), (0, .ref 0)] [] h n Post := by
  obtain ⟨hR, ⟨th, hQ⟩, hT, hV, ⟨w, s, hO⟩, hs, hn⟩ := hI
  refine sw_aload_n (pc' := 1523) rfl dL_law_1522 rfl ?_
  refine sw_aload_n (pc' := 1524) rfl dL_law_1523 rfl ?_
  refine sw_iload (pc' := 1526) rfl dL_law_1524 rfl ?_
  refine sw_iconst (pc' := 1527) (v := 1) rfl dL_law_1526 (by decide +kernel) ?_
  refine sw_iadd (pc' := 1528) rfl dL_law_1527 ?_
  rw [show (nI i) + 1 = nI (i + 1) from nI_add _ _]
  refine sw_iald (j := i + 1) (pc' := 1529) rfl dL_law_1528 hs rfl (by omega) (by omega) ?_
  refine sw_aload_n (pc' := 1530) rfl dL_law_1529 rfl ?_
  refine sw_iload (pc' := 1532) rfl dL_law_1530 rfl ?_
  refine sw_iconst (pc' := 1533) (v := 2) rfl dL_law_1532 (by decide +kernel) ?_
  refine sw_iadd (pc' := 1534) rfl dL_law_1533 ?_
  rw [show (nI i) + 2 = nI (i + 2) from nI_add _ _]
  refine sw_iald (j := i + 2) (pc' := 1535) rfl dL_law_1534 hs rfl (by omega) (by omega) ?_
  refine sw_aload_n (pc' := 1536) rfl dL_law_1535 rfl ?_
  refine sw_iload (pc' := 1538) rfl dL_law_1536 rfl ?_
  refine sw_iconst (pc' := 1539) (v := 3) rfl dL_law_1538 (by decide +kernel) ?_
  refine sw_iadd (pc' := 1540) rfl dL_law_1539 ?_
  rw [show (nI i) + 3 = nI (i + 3) from nI_add _ _]
  refine sw_iald (j := i + 3) (pc' := 1541) rfl dL_law_1540 hs rfl (by omega) (by omega) ?_
  refine sw_if_eq (pc' := 1544) (tgt := 1548) rfl dL_law_1541 (by decide +kernel) (fun c1541 => ?_) (fun c1541 => ?_)
  · refine sw_iconst (pc' := 1549) (v := 0) rfl dL_law_1548 (by decide +kernel) ?_
    refine sw_aload_n (pc' := 1550) rfl dL_law_1549 rfl ?_
    refine sw_S (M' := ML_placeOf) (d' := d - 1) (bc' := 60) (bs' := 400) (as := [_, _, _, _, _]) dL_law_1550 w_1042 ok_L_placeOf (L_placeOf hR hT hV hN hO hn (by omega) (Nat.le_refl _) (Nat.le_refl _)) (by omega) (Nat.le_of_ble_eq_true rfl) (by omega) (by omega) (fun E h' n' _ z => lpo_x z) (lpo_k (fun p pn pw ps pk pR pO pv pF => ?_))
    refine sw_istore (pc' := 1555) (lv' := [(5, _), (4, _), (3, _), (2, _), (1, _), (0, _)]) rfl dL_law_1553 (by decide +kernel) rfl ?_
    refine sw_aload_n (pc' := 1556) rfl dL_law_1555 rfl ?_
    refine sw_aload_n (pc' := 1557) rfl dL_law_1556 rfl ?_
    refine sw_iload (pc' := 1559) rfl dL_law_1557 rfl ?_
    refine sw_iconst (pc' := 1560) (v := 1) rfl dL_law_1559 (by decide +kernel) ?_
    refine sw_iadd (pc' := 1561) rfl dL_law_1560 ?_
    rw [show (nI i) + 1 = nI (i + 1) from nI_add _ _]
    refine sw_iald (j := i + 1) (pc' := 1562) rfl dL_law_1561 ((pF 0 (by omega) (by omega) (by omega)).trans hs) rfl (by omega) (by omega) ?_
    refine sw_aload_n (pc' := 1563) rfl dL_law_1562 rfl ?_
    refine sw_iload (pc' := 1565) rfl dL_law_1563 rfl ?_
    refine sw_iconst (pc' := 1566) (v := 2) rfl dL_law_1565 (by decide +kernel) ?_
    refine sw_iadd (pc' := 1567) rfl dL_law_1566 ?_
    rw [show (nI i) + 2 = nI (i + 2) from nI_add _ _]
    refine sw_iald (j := i + 2) (pc' := 1568) rfl dL_law_1567 ((pF 0 (by omega) (by omega) (by omega)).trans hs) rfl (by omega) (by omega) ?_
    refine sw_aload_n (pc' := 1569) rfl dL_law_1568 rfl ?_
    refine sw_iload (pc' := 1571) rfl dL_law_1569 rfl ?_
    refine sw_iconst (pc' := 1572) (v := 3) rfl dL_law_1571 (by decide +kernel) ?_
    refine sw_iadd (pc' := 1573) rfl dL_law_1572 ?_
    rw [show (nI i) + 3 = nI (i + 3) from nI_add _ _]
    refine sw_iald (j := i + 3) (pc' := 1574) rfl dL_law_1573 ((pF 0 (by omega) (by omega) (by omega)).trans hs) rfl (by omega) (by omega) ?_
    refine sw_if_eq (pc' := 1577) (tgt := 1581) rfl dL_law_1574 (by decide +kernel) (fun c1574 => ?_) (fun c1574 => ?_)
    · refine sw_iconst (pc' := 1582) (v := 0) rfl dL_law_1581 (by decide +kernel) ?_
      have hQ2 := hQ.fr (fun i a b => pF i (by omega) (by omega) (by omega))
      obtain ⟨ρ, τ, hM, hA⟩ := id hQ2
      refine sw_V (M' := MX5_placeOf) (d' := d - 1) (bc' := 1) (bs' := 12) (ci := 6) (as := [_, _, _]) dL_law_1582 w_1425 ok_X5_placeOf (q_placeOf hQ2 (hV.iv hN) (by omega) (by omega) (Nat.le_refl _) (Nat.le_refl _)) hM.ob rfl (by omega) (Nat.le_of_ble_eq_true rfl) (by omega) (by omega) (fun E h' n' _ z => pmc_x z) (pmc_k ox_placeOf (fun u un ub uk uv uR uF => ?_))
      refine sw_istore (pc' := 1587) (lv' := [(6, _), (5, _), (4, _), (3, _), (2, _), (1, _), (0, _)]) rfl dL_law_1585 (by decide +kernel) rfl ?_
      refine sw_goto (tgt := 1945) dL_law_1587 (by decide +kernel) ?_
      have J : LI L xs u un (opPlaceOf σ (xs (i + 1)) (xs (i + 2)) 0).2 (N + 12) := ⟨pR.frT (fun i hi => uF i (by omega) (by omega)), ⟨_, uR⟩, hT.fr (fun i hi => (uF i (by omega) (by omega)).trans (pF i (by omega) (by omega) (by omega))), iv_placeOf hV, ⟨_, _, (uF 158 (by omega) (by omega)).trans pO⟩, (uF 0 (by omega) (by omega)).trans ((pF 0 (by omega) (by omega) (by omega)).trans hs), by omega⟩
      exact SW.pick [2, 3, 4, 5, 6] rfl ((K u un _ (by omega) J).bud (by omega) (by omega))
    · exact absurd c1541 c1574
  · refine sw_iconst (pc' := 1545) (v := 1) rfl dL_law_1544 (by decide +kernel) ?_
    refine sw_goto (tgt := 1549) dL_law_1545 (by decide +kernel) ?_
    refine sw_aload_n (pc' := 1550) rfl dL_law_1549 rfl ?_
    refine sw_S (M' := ML_placeOf) (d' := d - 1) (bc' := 60) (bs' := 400) (as := [_, _, _, _, _]) dL_law_1550 w_1042 ok_L_placeOf (L_placeOf hR hT hV hN hO hn (by omega) (Nat.le_refl _) (Nat.le_refl _)) (by omega) (Nat.le_of_ble_eq_true rfl) (by omega) (by omega) (fun E h' n' _ z => lpo_x z) (lpo_k (fun p pn pw ps pk pR pO pv pF => ?_))
    refine sw_istore (pc' := 1555) (lv' := [(5, _), (4, _), (3, _), (2, _), (1, _), (0, _)]) rfl dL_law_1553 (by decide +kernel) rfl ?_
    refine sw_aload_n (pc' := 1556) rfl dL_law_1555 rfl ?_
    refine sw_aload_n (pc' := 1557) rfl dL_law_1556 rfl ?_
    refine sw_iload (pc' := 1559) rfl dL_law_1557 rfl ?_
    refine sw_iconst (pc' := 1560) (v := 1) rfl dL_law_1559 (by decide +kernel) ?_
    refine sw_iadd (pc' := 1561) rfl dL_law_1560 ?_
    rw [show (nI i) + 1 = nI (i + 1) from nI_add _ _]
    refine sw_iald (j := i + 1) (pc' := 1562) rfl dL_law_1561 ((pF 0 (by omega) (by omega) (by omega)).trans hs) rfl (by omega) (by omega) ?_
    refine sw_aload_n (pc' := 1563) rfl dL_law_1562 rfl ?_
    refine sw_iload (pc' := 1565) rfl dL_law_1563 rfl ?_
    refine sw_iconst (pc' := 1566) (v := 2) rfl dL_law_1565 (by decide +kernel) ?_
    refine sw_iadd (pc' := 1567) rfl dL_law_1566 ?_
    rw [show (nI i) + 2 = nI (i + 2) from nI_add _ _]
    refine sw_iald (j := i + 2) (pc' := 1568) rfl dL_law_1567 ((pF 0 (by omega) (by omega) (by omega)).trans hs) rfl (by omega) (by omega) ?_
    refine sw_aload_n (pc' := 1569) rfl dL_law_1568 rfl ?_
    refine sw_iload (pc' := 1571) rfl dL_law_1569 rfl ?_
    refine sw_iconst (pc' := 1572) (v := 3) rfl dL_law_1571 (by decide +kernel) ?_
    refine sw_iadd (pc' := 1573) rfl dL_law_1572 ?_
    rw [show (nI i) + 3 = nI (i + 3) from nI_add _ _]
    refine sw_iald (j := i + 3) (pc' := 1574) rfl dL_law_1573 ((pF 0 (by omega) (by omega) (by omega)).trans hs) rfl (by omega) (by omega) ?_
    refine sw_if_eq (pc' := 1577) (tgt := 1581) rfl dL_law_1574 (by decide +kernel) (fun c1574 => ?_) (fun c1574 => ?_)
    · exact absurd c1574 c1541
    · refine sw_iconst (pc' := 1578) (v := 1) rfl dL_law_1577 (by decide +kernel) ?_
      refine sw_goto (tgt := 1582) dL_law_1578 (by decide +kernel) ?_
      have hQ2 := hQ.fr (fun i a b => pF i (by omega) (by omega) (by omega))
      obtain ⟨ρ, τ, hM, hA⟩ := id hQ2
      refine sw_V (M' := MX5_placeOf) (d' := d - 1) (bc' := 1) (bs' := 12) (ci := 6) (as := [_, _, _]) dL_law_1582 w_1425 ok_X5_placeOf (q_placeOf hQ2 (hV.iv hN) (by omega) (by omega) (Nat.le_refl _) (Nat.le_refl _)) hM.ob rfl (by omega) (Nat.le_of_ble_eq_true rfl) (by omega) (by omega) (fun E h' n' _ z => pmc_x z) (pmc_k ox_placeOf (fun u un ub uk uv uR uF => ?_))
      refine sw_istore (pc' := 1587) (lv' := [(6, _), (5, _), (4, _), (3, _), (2, _), (1, _), (0, _)]) rfl dL_law_1585 (by decide +kernel) rfl ?_
      refine sw_goto (tgt := 1945) dL_law_1587 (by decide +kernel) ?_
      have J : LI L xs u un (opPlaceOf σ (xs (i + 1)) (xs (i + 2)) 1).2 (N + 12) := ⟨pR.frT (fun i hi => uF i (by omega) (by omega)), ⟨_, uR⟩, hT.fr (fun i hi => (uF i (by omega) (by omega)).trans (pF i (by omega) (by omega) (by omega))), iv_placeOf hV, ⟨_, _, (uF 158 (by omega) (by omega)).trans pO⟩, (uF 0 (by omega) (by omega)).trans ((pF 0 (by omega) (by omega) (by omega)).trans hs), by omega⟩
      exact SW.pick [2, 3, 4, 5, 6] rfl ((K u un _ (by omega) J).bud (by omega) (by omega))
theorem lc_33 {L : Nat} {xs : Nat → Int32} {h : AH} {n i N d bc bs : Nat} {σ : CS} {Post : ARes → AH → Nat → Prop} (hI : LI L xs h n σ N) (hN : N < 2 ^ 31) (hL : L ≤ 3072) (hi : i + 6 ≤ L) (hd : 20 ≤ d) (h1 : 380 ≤ bc) (h2 : 4500 ≤ bs) (K : ∀ (h' : AH) (n' : Nat) (σ' : CS), n ≤ n' → LI L xs h' n' σ' (N + 12) → SW SR0 ML_law d (bc - 380) (bs - 4500) 1945 [(4, .int (nI i)), (3, .ref 158), (2, .ref 135), (1, .ref 100), (0, .ref 0)] [] h' n' Post) : SW SR0 ML_law d bc bs 1590 [(4, .int (nI i)), (3, .ref 158), (2, .ref 135), (1, .ref 100), (0, .ref 0)] [] h n Post := by
  obtain ⟨hR, ⟨th, hQ⟩, hT, hV, ⟨w, s, hO⟩, hs, hn⟩ := hI
  refine sw_aload_n (pc' := 1591) rfl dL_law_1590 rfl ?_
  refine sw_aload_n (pc' := 1592) rfl dL_law_1591 rfl ?_
  refine sw_iload (pc' := 1594) rfl dL_law_1592 rfl ?_
  refine sw_iconst (pc' := 1595) (v := 1) rfl dL_law_1594 (by decide +kernel) ?_
  refine sw_iadd (pc' := 1596) rfl dL_law_1595 ?_
  rw [show (nI i) + 1 = nI (i + 1) from nI_add _ _]
  refine sw_iald (j := i + 1) (pc' := 1597) rfl dL_law_1596 hs rfl (by omega) (by omega) ?_
  refine sw_aload_n (pc' := 1598) rfl dL_law_1597 rfl ?_
  refine sw_iload (pc' := 1600) rfl dL_law_1598 rfl ?_
  refine sw_iconst (pc' := 1601) (v := 2) rfl dL_law_1600 (by decide +kernel) ?_
  refine sw_iadd (pc' := 1602) rfl dL_law_1601 ?_
  rw [show (nI i) + 2 = nI (i + 2) from nI_add _ _]
  refine sw_iald (j := i + 2) (pc' := 1603) rfl dL_law_1602 hs rfl (by omega) (by omega) ?_
  refine sw_aload_n (pc' := 1604) rfl dL_law_1603 rfl ?_
  refine sw_S (M' := ML_disjoint) (d' := d - 1) (bc' := 60) (bs' := 400) (as := [_, _, _, _]) dL_law_1604 w_1053 ok_L_disjoint (L_disjoint hR hT hV hN hO hn (by omega) (Nat.le_refl _) (Nat.le_refl _)) (by omega) (Nat.le_of_ble_eq_true rfl) (by omega) (by omega) (fun E h' n' _ z => lpo_x z) (lpo_k (fun p pn pw ps pk pR pO pv pF => ?_))
  refine sw_istore (pc' := 1609) (lv' := [(5, _), (4, _), (3, _), (2, _), (1, _), (0, _)]) rfl dL_law_1607 (by decide +kernel) rfl ?_
  refine sw_aload_n (pc' := 1610) rfl dL_law_1609 rfl ?_
  refine sw_aload_n (pc' := 1611) rfl dL_law_1610 rfl ?_
  refine sw_iload (pc' := 1613) rfl dL_law_1611 rfl ?_
  refine sw_iconst (pc' := 1614) (v := 1) rfl dL_law_1613 (by decide +kernel) ?_
  refine sw_iadd (pc' := 1615) rfl dL_law_1614 ?_
  rw [show (nI i) + 1 = nI (i + 1) from nI_add _ _]
  refine sw_iald (j := i + 1) (pc' := 1616) rfl dL_law_1615 ((pF 0 (by omega) (by omega) (by omega)).trans hs) rfl (by omega) (by omega) ?_
  refine sw_aload_n (pc' := 1617) rfl dL_law_1616 rfl ?_
  refine sw_iload (pc' := 1619) rfl dL_law_1617 rfl ?_
  refine sw_iconst (pc' := 1620) (v := 2) rfl dL_law_1619 (by decide +kernel) ?_
  refine sw_iadd (pc' := 1621) rfl dL_law_1620 ?_
  rw [show (nI i) + 2 = nI (i + 2) from nI_add _ _]
  refine sw_iald (j := i + 2) (pc' := 1622) rfl dL_law_1621 ((pF 0 (by omega) (by omega) (by omega)).trans hs) rfl (by omega) (by omega) ?_
  have hQ2 := hQ.fr (fun i a b => pF i (by omega) (by omega) (by omega))
  obtain ⟨ρ, τ, hM, hA⟩ := id hQ2
  refine sw_V (M' := MX5_disjoint) (d' := d - 1) (bc' := 1) (bs' := 12) (ci := 6) (as := [_, _]) dL_law_1622 w_1429 ok_X5_disjoint (q_disjoint hQ2 (hV.iv hN) (by omega) (by omega) (Nat.le_refl _) (Nat.le_refl _)) hM.ob rfl (by omega) (Nat.le_of_ble_eq_true rfl) (by omega) (by omega) (fun E h' n' _ z => pmc_x z) (pmc_k ox_disjoint (fun u un ub uk uv uR uF => ?_))
  refine sw_istore (pc' := 1627) (lv' := [(6, _), (5, _), (4, _), (3, _), (2, _), (1, _), (0, _)]) rfl dL_law_1625 (by decide +kernel) rfl ?_
  refine sw_goto (tgt := 1945) dL_law_1627 (by decide +kernel) ?_
  have J : LI L xs u un (opDisjoint σ (xs (i + 1)) (xs (i + 2))).2 (N + 12) := ⟨pR.frT (fun i hi => uF i (by omega) (by omega)), ⟨_, uR⟩, hT.fr (fun i hi => (uF i (by omega) (by omega)).trans (pF i (by omega) (by omega) (by omega))), iv_disjoint hV, ⟨_, _, (uF 158 (by omega) (by omega)).trans pO⟩, (uF 0 (by omega) (by omega)).trans ((pF 0 (by omega) (by omega) (by omega)).trans hs), by omega⟩
  exact SW.pick [2, 3, 4, 5, 6] rfl ((K u un _ (by omega) J).bud (by omega) (by omega))
theorem lc_34 {L : Nat} {xs : Nat → Int32} {h : AH} {n i N d bc bs : Nat} {σ : CS} {Post : ARes → AH → Nat → Prop} (hI : LI L xs h n σ N) (hN : N < 2 ^ 31) (hL : L ≤ 3072) (hi : i + 6 ≤ L) (hd : 20 ≤ d) (h1 : 380 ≤ bc) (h2 : 4500 ≤ bs) (K : ∀ (h' : AH) (n' : Nat) (σ' : CS), n ≤ n' → LI L xs h' n' σ' (N + 12) → SW SR0 ML_law d (bc - 380) (bs - 4500) 1945 [(4, .int (nI i)), (3, .ref 158), (2, .ref 135), (1, .ref 100), (0, .ref 0)] [] h' n' Post) : SW SR0 ML_law d bc bs 1630 [(4, .int (nI i)), (3, .ref 158), (2, .ref 135), (1, .ref 100), (0, .ref 0)] [] h n Post := by
  obtain ⟨hR, ⟨th, hQ⟩, hT, hV, ⟨w, s, hO⟩, hs, hn⟩ := hI
  refine sw_aload_n (pc' := 1631) rfl dL_law_1630 rfl ?_
  refine sw_aload_n (pc' := 1632) rfl dL_law_1631 rfl ?_
  refine sw_iload (pc' := 1634) rfl dL_law_1632 rfl ?_
  refine sw_iconst (pc' := 1635) (v := 1) rfl dL_law_1634 (by decide +kernel) ?_
  refine sw_iadd (pc' := 1636) rfl dL_law_1635 ?_
  rw [show (nI i) + 1 = nI (i + 1) from nI_add _ _]
  refine sw_iald (j := i + 1) (pc' := 1637) rfl dL_law_1636 hs rfl (by omega) (by omega) ?_
  refine sw_aload_n (pc' := 1638) rfl dL_law_1637 rfl ?_
  refine sw_iload (pc' := 1640) rfl dL_law_1638 rfl ?_
  refine sw_iconst (pc' := 1641) (v := 2) rfl dL_law_1640 (by decide +kernel) ?_
  refine sw_iadd (pc' := 1642) rfl dL_law_1641 ?_
  rw [show (nI i) + 2 = nI (i + 2) from nI_add _ _]
  refine sw_iald (j := i + 2) (pc' := 1643) rfl dL_law_1642 hs rfl (by omega) (by omega) ?_
  refine sw_if_eq (pc' := 1646) (tgt := 1650) rfl dL_law_1643 (by decide +kernel) (fun c1643 => ?_) (fun c1643 => ?_)
  · refine sw_iconst (pc' := 1651) (v := 0) rfl dL_law_1650 (by decide +kernel) ?_
    refine sw_aload_n (pc' := 1652) rfl dL_law_1651 rfl ?_
    refine sw_S (M' := ML_end) (d' := d - 1) (bc' := 60) (bs' := 400) (as := [_, _, _, _]) dL_law_1652 w_1060 ok_L_end (L_end hR hT hV hN hO hn (by omega) (Nat.le_refl _) (Nat.le_refl _)) (by omega) (Nat.le_of_ble_eq_true rfl) (by omega) (by omega) (fun E h' n' _ z => lpo_x z) (lpo_k (fun p pn pw ps pk pR pO pv pF => ?_))
    refine sw_istore (pc' := 1657) (lv' := [(5, _), (4, _), (3, _), (2, _), (1, _), (0, _)]) rfl dL_law_1655 (by decide +kernel) rfl ?_
    refine sw_aload_n (pc' := 1658) rfl dL_law_1657 rfl ?_
    refine sw_aload_n (pc' := 1659) rfl dL_law_1658 rfl ?_
    refine sw_iload (pc' := 1661) rfl dL_law_1659 rfl ?_
    refine sw_iconst (pc' := 1662) (v := 1) rfl dL_law_1661 (by decide +kernel) ?_
    refine sw_iadd (pc' := 1663) rfl dL_law_1662 ?_
    rw [show (nI i) + 1 = nI (i + 1) from nI_add _ _]
    refine sw_iald (j := i + 1) (pc' := 1664) rfl dL_law_1663 ((pF 0 (by omega) (by omega) (by omega)).trans hs) rfl (by omega) (by omega) ?_
    refine sw_aload_n (pc' := 1665) rfl dL_law_1664 rfl ?_
    refine sw_iload (pc' := 1667) rfl dL_law_1665 rfl ?_
    refine sw_iconst (pc' := 1668) (v := 2) rfl dL_law_1667 (by decide +kernel) ?_
    refine sw_iadd (pc' := 1669) rfl dL_law_1668 ?_
    rw [show (nI i) + 2 = nI (i + 2) from nI_add _ _]
    refine sw_iald (j := i + 2) (pc' := 1670) rfl dL_law_1669 ((pF 0 (by omega) (by omega) (by omega)).trans hs) rfl (by omega) (by omega) ?_
    refine sw_if_eq (pc' := 1673) (tgt := 1677) rfl dL_law_1670 (by decide +kernel) (fun c1670 => ?_) (fun c1670 => ?_)
    · refine sw_iconst (pc' := 1678) (v := 0) rfl dL_law_1677 (by decide +kernel) ?_
      have hQ2 := hQ.fr (fun i a b => pF i (by omega) (by omega) (by omega))
      obtain ⟨ρ, τ, hM, hA⟩ := id hQ2
      refine sw_V (M' := MX5_end) (d' := d - 1) (bc' := 1) (bs' := 12) (ci := 6) (as := [_, _]) dL_law_1678 w_1433 ok_X5_end (q_end hQ2 (hV.iv hN) (by omega) (by omega) (Nat.le_refl _) (Nat.le_refl _)) hM.ob rfl (by omega) (Nat.le_of_ble_eq_true rfl) (by omega) (by omega) (fun E h' n' _ z => pmc_x z) (pmc_k ox_end (fun u un ub uk uv uR uF => ?_))
      refine sw_istore (pc' := 1683) (lv' := [(6, _), (5, _), (4, _), (3, _), (2, _), (1, _), (0, _)]) rfl dL_law_1681 (by decide +kernel) rfl ?_
      refine sw_goto (tgt := 1945) dL_law_1683 (by decide +kernel) ?_
      have J : LI L xs u un (opEnd σ (xs (i + 1)) 0).2 (N + 12) := ⟨pR.frT (fun i hi => uF i (by omega) (by omega)), ⟨_, uR⟩, hT.fr (fun i hi => (uF i (by omega) (by omega)).trans (pF i (by omega) (by omega) (by omega))), iv_end hV, ⟨_, _, (uF 158 (by omega) (by omega)).trans pO⟩, (uF 0 (by omega) (by omega)).trans ((pF 0 (by omega) (by omega) (by omega)).trans hs), by omega⟩
      exact SW.pick [2, 3, 4, 5, 6] rfl ((K u un _ (by omega) J).bud (by omega) (by omega))
    · exact absurd c1643 c1670
  · refine sw_iconst (pc' := 1647) (v := 1) rfl dL_law_1646 (by decide +kernel) ?_
    refine sw_goto (tgt := 1651) dL_law_1647 (by decide +kernel) ?_
    refine sw_aload_n (pc' := 1652) rfl dL_law_1651 rfl ?_
    refine sw_S (M' := ML_end) (d' := d - 1) (bc' := 60) (bs' := 400) (as := [_, _, _, _]) dL_law_1652 w_1060 ok_L_end (L_end hR hT hV hN hO hn (by omega) (Nat.le_refl _) (Nat.le_refl _)) (by omega) (Nat.le_of_ble_eq_true rfl) (by omega) (by omega) (fun E h' n' _ z => lpo_x z) (lpo_k (fun p pn pw ps pk pR pO pv pF => ?_))
    refine sw_istore (pc' := 1657) (lv' := [(5, _), (4, _), (3, _), (2, _), (1, _), (0, _)]) rfl dL_law_1655 (by decide +kernel) rfl ?_
    refine sw_aload_n (pc' := 1658) rfl dL_law_1657 rfl ?_
    refine sw_aload_n (pc' := 1659) rfl dL_law_1658 rfl ?_
    refine sw_iload (pc' := 1661) rfl dL_law_1659 rfl ?_
    refine sw_iconst (pc' := 1662) (v := 1) rfl dL_law_1661 (by decide +kernel) ?_
    refine sw_iadd (pc' := 1663) rfl dL_law_1662 ?_
    rw [show (nI i) + 1 = nI (i + 1) from nI_add _ _]
    refine sw_iald (j := i + 1) (pc' := 1664) rfl dL_law_1663 ((pF 0 (by omega) (by omega) (by omega)).trans hs) rfl (by omega) (by omega) ?_
    refine sw_aload_n (pc' := 1665) rfl dL_law_1664 rfl ?_
    refine sw_iload (pc' := 1667) rfl dL_law_1665 rfl ?_
    refine sw_iconst (pc' := 1668) (v := 2) rfl dL_law_1667 (by decide +kernel) ?_
    refine sw_iadd (pc' := 1669) rfl dL_law_1668 ?_
    rw [show (nI i) + 2 = nI (i + 2) from nI_add _ _]
    refine sw_iald (j := i + 2) (pc' := 1670) rfl dL_law_1669 ((pF 0 (by omega) (by omega) (by omega)).trans hs) rfl (by omega) (by omega) ?_
    refine sw_if_eq (pc' := 1673) (tgt := 1677) rfl dL_law_1670 (by decide +kernel) (fun c1670 => ?_) (fun c1670 => ?_)
    · exact absurd c1670 c1643
    · refine sw_iconst (pc' := 1674) (v := 1) rfl dL_law_1673 (by decide +kernel) ?_
      refine sw_goto (tgt := 1678) dL_law_1674 (by decide +kernel) ?_
      have hQ2 := hQ.fr (fun i a b => pF i (by omega) (by omega) (by omega))
      obtain ⟨ρ, τ, hM, hA⟩ := id hQ2
      refine sw_V (M' := MX5_end) (d' := d - 1) (bc' := 1) (bs' := 12) (ci := 6) (as := [_, _]) dL_law_1678 w_1433 ok_X5_end (q_end hQ2 (hV.iv hN) (by omega) (by omega) (Nat.le_refl _) (Nat.le_refl _)) hM.ob rfl (by omega) (Nat.le_of_ble_eq_true rfl) (by omega) (by omega) (fun E h' n' _ z => pmc_x z) (pmc_k ox_end (fun u un ub uk uv uR uF => ?_))
      refine sw_istore (pc' := 1683) (lv' := [(6, _), (5, _), (4, _), (3, _), (2, _), (1, _), (0, _)]) rfl dL_law_1681 (by decide +kernel) rfl ?_
      refine sw_goto (tgt := 1945) dL_law_1683 (by decide +kernel) ?_
      have J : LI L xs u un (opEnd σ (xs (i + 1)) 1).2 (N + 12) := ⟨pR.frT (fun i hi => uF i (by omega) (by omega)), ⟨_, uR⟩, hT.fr (fun i hi => (uF i (by omega) (by omega)).trans (pF i (by omega) (by omega) (by omega))), iv_end hV, ⟨_, _, (uF 158 (by omega) (by omega)).trans pO⟩, (uF 0 (by omega) (by omega)).trans ((pF 0 (by omega) (by omega) (by omega)).trans hs), by omega⟩
      exact SW.pick [2, 3, 4, 5, 6] rfl ((K u un _ (by omega) J).bud (by omega) (by omega))
theorem lc_35 {L : Nat} {xs : Nat → Int32} {h : AH} {n i N d bc bs : Nat} {σ : CS} {Post : ARes → AH → Nat → Prop} (hI : LI L xs h n σ N) (hN : N < 2 ^ 31) (hL : L ≤ 3072) (hi : i + 6 ≤ L) (hd : 20 ≤ d) (h1 : 380 ≤ bc) (h2 : 4500 ≤ bs) (K : ∀ (h' : AH) (n' : Nat) (σ' : CS), n ≤ n' → LI L xs h' n' σ' (N + 12) → SW SR0 ML_law d (bc - 380) (bs - 4500) 1945 [(4, .int (nI i)), (3, .ref 158), (2, .ref 135), (1, .ref 100), (0, .ref 0)] [] h' n' Post) : SW SR0 ML_law d bc bs 1686 [(4, .int (nI i)), (3, .ref 158), (2, .ref 135), (1, .ref 100), (0, .ref 0)] [] h n Post := by
  obtain ⟨hR, ⟨th, hQ⟩, hT, hV, ⟨w, s, hO⟩, hs, hn⟩ := hI
  refine sw_aload_n (pc' := 1687) rfl dL_law_1686 rfl ?_
  refine sw_aload_n (pc' := 1688) rfl dL_law_1687 rfl ?_
  refine sw_iload (pc' := 1690) rfl dL_law_1688 rfl ?_
  refine sw_iconst (pc' := 1691) (v := 1) rfl dL_law_1690 (by decide +kernel) ?_
  refine sw_iadd (pc' := 1692) rfl dL_law_1691 ?_
  rw [show (nI i) + 1 = nI (i + 1) from nI_add _ _]
  refine sw_iald (j := i + 1) (pc' := 1693) rfl dL_law_1692 hs rfl (by omega) (by omega) ?_
  refine sw_aload_n (pc' := 1694) rfl dL_law_1693 rfl ?_
  refine sw_S (M' := ML_code) (d' := d - 1) (bc' := 60) (bs' := 400) (as := [_, _, _]) dL_law_1694 w_1069 ok_L_code (L_code hR hT hV hN hO hn (by omega) (Nat.le_refl _) (Nat.le_refl _)) (by omega) (Nat.le_of_ble_eq_true rfl) (by omega) (by omega) (fun E h' n' _ z => lpo_x z) (lpo_k (fun p pn pw ps pk pR pO pv pF => ?_))
  refine sw_istore (pc' := 1699) (lv' := [(5, _), (4, _), (3, _), (2, _), (1, _), (0, _)]) rfl dL_law_1697 (by decide +kernel) rfl ?_
  refine sw_aload_n (pc' := 1700) rfl dL_law_1699 rfl ?_
  refine sw_aload_n (pc' := 1701) rfl dL_law_1700 rfl ?_
  refine sw_iload (pc' := 1703) rfl dL_law_1701 rfl ?_
  refine sw_iconst (pc' := 1704) (v := 1) rfl dL_law_1703 (by decide +kernel) ?_
  refine sw_iadd (pc' := 1705) rfl dL_law_1704 ?_
  rw [show (nI i) + 1 = nI (i + 1) from nI_add _ _]
  refine sw_iald (j := i + 1) (pc' := 1706) rfl dL_law_1705 ((pF 0 (by omega) (by omega) (by omega)).trans hs) rfl (by omega) (by omega) ?_
  have hQ2 := hQ.fr (fun i a b => pF i (by omega) (by omega) (by omega))
  obtain ⟨ρ, τ, hM, hA⟩ := id hQ2
  refine sw_V (M' := MX5_code) (d' := d - 1) (bc' := 1) (bs' := 12) (ci := 6) (as := [_]) dL_law_1706 w_1439 ok_X5_code (q_code hQ2 (hV.iv hN) (by omega) (by omega) (Nat.le_refl _) (Nat.le_refl _)) hM.ob rfl (by omega) (Nat.le_of_ble_eq_true rfl) (by omega) (by omega) (fun E h' n' _ z => pmc_x z) (pmc_k ox_code (fun u un ub uk uv uR uF => ?_))
  refine sw_istore (pc' := 1711) (lv' := [(6, _), (5, _), (4, _), (3, _), (2, _), (1, _), (0, _)]) rfl dL_law_1709 (by decide +kernel) rfl ?_
  refine sw_goto (tgt := 1945) dL_law_1711 (by decide +kernel) ?_
  have J : LI L xs u un (opCode σ (xs (i + 1))).2 (N + 12) := ⟨pR.frT (fun i hi => uF i (by omega) (by omega)), ⟨_, uR⟩, hT.fr (fun i hi => (uF i (by omega) (by omega)).trans (pF i (by omega) (by omega) (by omega))), iv_code hV, ⟨_, _, (uF 158 (by omega) (by omega)).trans pO⟩, (uF 0 (by omega) (by omega)).trans ((pF 0 (by omega) (by omega) (by omega)).trans hs), by omega⟩
  exact SW.pick [2, 3, 4, 5, 6] rfl ((K u un _ (by omega) J).bud (by omega) (by omega))
theorem lc_36 {L : Nat} {xs : Nat → Int32} {h : AH} {n i N d bc bs : Nat} {σ : CS} {Post : ARes → AH → Nat → Prop} (hI : LI L xs h n σ N) (hN : N < 2 ^ 31) (hL : L ≤ 3072) (hi : i + 6 ≤ L) (hd : 20 ≤ d) (h1 : 380 ≤ bc) (h2 : 4500 ≤ bs) (K : ∀ (h' : AH) (n' : Nat) (σ' : CS), n ≤ n' → LI L xs h' n' σ' (N + 12) → SW SR0 ML_law d (bc - 380) (bs - 4500) 1945 [(4, .int (nI i)), (3, .ref 158), (2, .ref 135), (1, .ref 100), (0, .ref 0)] [] h' n' Post) : SW SR0 ML_law d bc bs 1714 [(4, .int (nI i)), (3, .ref 158), (2, .ref 135), (1, .ref 100), (0, .ref 0)] [] h n Post := by
  obtain ⟨hR, ⟨th, hQ⟩, hT, hV, ⟨w, s, hO⟩, hs, hn⟩ := hI
  refine sw_aload_n (pc' := 1715) rfl dL_law_1714 rfl ?_
  refine sw_aload_n (pc' := 1716) rfl dL_law_1715 rfl ?_
  refine sw_iload (pc' := 1718) rfl dL_law_1716 rfl ?_
  refine sw_iconst (pc' := 1719) (v := 1) rfl dL_law_1718 (by decide +kernel) ?_
  refine sw_iadd (pc' := 1720) rfl dL_law_1719 ?_
  rw [show (nI i) + 1 = nI (i + 1) from nI_add _ _]
  refine sw_iald (j := i + 1) (pc' := 1721) rfl dL_law_1720 hs rfl (by omega) (by omega) ?_
  refine sw_aload_n (pc' := 1722) rfl dL_law_1721 rfl ?_
  refine sw_iload (pc' := 1724) rfl dL_law_1722 rfl ?_
  refine sw_iconst (pc' := 1725) (v := 2) rfl dL_law_1724 (by decide +kernel) ?_
  refine sw_iadd (pc' := 1726) rfl dL_law_1725 ?_
  rw [show (nI i) + 2 = nI (i + 2) from nI_add _ _]
  refine sw_iald (j := i + 2) (pc' := 1727) rfl dL_law_1726 hs rfl (by omega) (by omega) ?_
  refine sw_aload_n (pc' := 1728) rfl dL_law_1727 rfl ?_
  refine sw_S (M' := ML_areAlike) (d' := d - 1) (bc' := 60) (bs' := 400) (as := [_, _, _, _]) dL_law_1728 w_1076 ok_L_areAlike (L_areAlike hR hT hV hN hO hn (by omega) (Nat.le_refl _) (Nat.le_refl _)) (by omega) (Nat.le_of_ble_eq_true rfl) (by omega) (by omega) (fun E h' n' _ z => lpo_x z) (lpo_k (fun p pn pw ps pk pR pO pv pF => ?_))
  refine sw_istore (pc' := 1733) (lv' := [(5, _), (4, _), (3, _), (2, _), (1, _), (0, _)]) rfl dL_law_1731 (by decide +kernel) rfl ?_
  refine sw_aload_n (pc' := 1734) rfl dL_law_1733 rfl ?_
  refine sw_aload_n (pc' := 1735) rfl dL_law_1734 rfl ?_
  refine sw_iload (pc' := 1737) rfl dL_law_1735 rfl ?_
  refine sw_iconst (pc' := 1738) (v := 1) rfl dL_law_1737 (by decide +kernel) ?_
  refine sw_iadd (pc' := 1739) rfl dL_law_1738 ?_
  rw [show (nI i) + 1 = nI (i + 1) from nI_add _ _]
  refine sw_iald (j := i + 1) (pc' := 1740) rfl dL_law_1739 ((pF 0 (by omega) (by omega) (by omega)).trans hs) rfl (by omega) (by omega) ?_
  refine sw_aload_n (pc' := 1741) rfl dL_law_1740 rfl ?_
  refine sw_iload (pc' := 1743) rfl dL_law_1741 rfl ?_
  refine sw_iconst (pc' := 1744) (v := 2) rfl dL_law_1743 (by decide +kernel) ?_
  refine sw_iadd (pc' := 1745) rfl dL_law_1744 ?_
  rw [show (nI i) + 2 = nI (i + 2) from nI_add _ _]
  refine sw_iald (j := i + 2) (pc' := 1746) rfl dL_law_1745 ((pF 0 (by omega) (by omega) (by omega)).trans hs) rfl (by omega) (by omega) ?_
  have hQ2 := hQ.fr (fun i a b => pF i (by omega) (by omega) (by omega))
  obtain ⟨ρ, τ, hM, hA⟩ := id hQ2
  refine sw_V (M' := MX5_areAlike) (d' := d - 1) (bc' := 1) (bs' := 12) (ci := 6) (as := [_, _]) dL_law_1746 w_1443 ok_X5_areAlike (q_areAlike hQ2 (hV.iv hN) (by omega) (by omega) (Nat.le_refl _) (Nat.le_refl _)) hM.ob rfl (by omega) (Nat.le_of_ble_eq_true rfl) (by omega) (by omega) (fun E h' n' _ z => pmc_x z) (pmc_k ox_areAlike (fun u un ub uk uv uR uF => ?_))
  refine sw_istore (pc' := 1751) (lv' := [(6, _), (5, _), (4, _), (3, _), (2, _), (1, _), (0, _)]) rfl dL_law_1749 (by decide +kernel) rfl ?_
  refine sw_goto (tgt := 1945) dL_law_1751 (by decide +kernel) ?_
  have J : LI L xs u un (opAreAlike σ (xs (i + 1)) (xs (i + 2))).2 (N + 12) := ⟨pR.frT (fun i hi => uF i (by omega) (by omega)), ⟨_, uR⟩, hT.fr (fun i hi => (uF i (by omega) (by omega)).trans (pF i (by omega) (by omega) (by omega))), iv_areAlike hV, ⟨_, _, (uF 158 (by omega) (by omega)).trans pO⟩, (uF 0 (by omega) (by omega)).trans ((pF 0 (by omega) (by omega) (by omega)).trans hs), by omega⟩
  exact SW.pick [2, 3, 4, 5, 6] rfl ((K u un _ (by omega) J).bud (by omega) (by omega))
theorem lc_37 {L : Nat} {xs : Nat → Int32} {h : AH} {n i N d bc bs : Nat} {σ : CS} {Post : ARes → AH → Nat → Prop} (hI : LI L xs h n σ N) (hN : N < 2 ^ 31) (hL : L ≤ 3072) (hi : i + 6 ≤ L) (hd : 20 ≤ d) (h1 : 380 ≤ bc) (h2 : 4500 ≤ bs) (K : ∀ (h' : AH) (n' : Nat) (σ' : CS), n ≤ n' → LI L xs h' n' σ' (N + 12) → SW SR0 ML_law d (bc - 380) (bs - 4500) 1945 [(4, .int (nI i)), (3, .ref 158), (2, .ref 135), (1, .ref 100), (0, .ref 0)] [] h' n' Post) : SW SR0 ML_law d bc bs 1754 [(4, .int (nI i)), (3, .ref 158), (2, .ref 135), (1, .ref 100), (0, .ref 0)] [] h n Post := by
  obtain ⟨hR, ⟨th, hQ⟩, hT, hV, ⟨w, s, hO⟩, hs, hn⟩ := hI
  refine sw_aload_n (pc' := 1755) rfl dL_law_1754 rfl ?_
  refine sw_aload_n (pc' := 1756) rfl dL_law_1755 rfl ?_
  refine sw_iload (pc' := 1758) rfl dL_law_1756 rfl ?_
  refine sw_iconst (pc' := 1759) (v := 1) rfl dL_law_1758 (by decide +kernel) ?_
  refine sw_iadd (pc' := 1760) rfl dL_law_1759 ?_
  rw [show (nI i) + 1 = nI (i + 1) from nI_add _ _]
  refine sw_iald (j := i + 1) (pc' := 1761) rfl dL_law_1760 hs rfl (by omega) (by omega) ?_
  refine sw_aload_n (pc' := 1762) rfl dL_law_1761 rfl ?_
  refine sw_iload (pc' := 1764) rfl dL_law_1762 rfl ?_
  refine sw_iconst (pc' := 1765) (v := 2) rfl dL_law_1764 (by decide +kernel) ?_
  refine sw_iadd (pc' := 1766) rfl dL_law_1765 ?_
  rw [show (nI i) + 2 = nI (i + 2) from nI_add _ _]
  refine sw_iald (j := i + 2) (pc' := 1767) rfl dL_law_1766 hs rfl (by omega) (by omega) ?_
  refine sw_if_eq (pc' := 1770) (tgt := 1774) rfl dL_law_1767 (by decide +kernel) (fun c1767 => ?_) (fun c1767 => ?_)
  · refine sw_iconst (pc' := 1775) (v := 0) rfl dL_law_1774 (by decide +kernel) ?_
    refine sw_aload_n (pc' := 1776) rfl dL_law_1775 rfl ?_
    refine sw_S (M' := ML_first) (d' := d - 1) (bc' := 60) (bs' := 400) (as := [_, _, _, _]) dL_law_1776 w_1083 ok_L_first (L_first hR hT hV hN hO hn (by omega) (Nat.le_refl _) (Nat.le_refl _)) (by omega) (Nat.le_of_ble_eq_true rfl) (by omega) (by omega) (fun E h' n' _ z => lpo_x z) (lpo_k (fun p pn pw ps pk pR pO pv pF => ?_))
    refine sw_istore (pc' := 1781) (lv' := [(5, _), (4, _), (3, _), (2, _), (1, _), (0, _)]) rfl dL_law_1779 (by decide +kernel) rfl ?_
    refine sw_aload_n (pc' := 1782) rfl dL_law_1781 rfl ?_
    refine sw_aload_n (pc' := 1783) rfl dL_law_1782 rfl ?_
    refine sw_iload (pc' := 1785) rfl dL_law_1783 rfl ?_
    refine sw_iconst (pc' := 1786) (v := 1) rfl dL_law_1785 (by decide +kernel) ?_
    refine sw_iadd (pc' := 1787) rfl dL_law_1786 ?_
    rw [show (nI i) + 1 = nI (i + 1) from nI_add _ _]
    refine sw_iald (j := i + 1) (pc' := 1788) rfl dL_law_1787 ((pF 0 (by omega) (by omega) (by omega)).trans hs) rfl (by omega) (by omega) ?_
    refine sw_aload_n (pc' := 1789) rfl dL_law_1788 rfl ?_
    refine sw_iload (pc' := 1791) rfl dL_law_1789 rfl ?_
    refine sw_iconst (pc' := 1792) (v := 2) rfl dL_law_1791 (by decide +kernel) ?_
    refine sw_iadd (pc' := 1793) rfl dL_law_1792 ?_
    rw [show (nI i) + 2 = nI (i + 2) from nI_add _ _]
    refine sw_iald (j := i + 2) (pc' := 1794) rfl dL_law_1793 ((pF 0 (by omega) (by omega) (by omega)).trans hs) rfl (by omega) (by omega) ?_
    refine sw_if_eq (pc' := 1797) (tgt := 1801) rfl dL_law_1794 (by decide +kernel) (fun c1794 => ?_) (fun c1794 => ?_)
    · refine sw_iconst (pc' := 1802) (v := 0) rfl dL_law_1801 (by decide +kernel) ?_
      have hQ2 := hQ.fr (fun i a b => pF i (by omega) (by omega) (by omega))
      obtain ⟨ρ, τ, hM, hA⟩ := id hQ2
      refine sw_V (M' := MX5_first) (d' := d - 1) (bc' := 1) (bs' := 12) (ci := 6) (as := [_, _]) dL_law_1802 w_1447 ok_X5_first (q_first hQ2 (hV.iv hN) (by omega) (by omega) (Nat.le_refl _) (Nat.le_refl _)) hM.ob rfl (by omega) (Nat.le_of_ble_eq_true rfl) (by omega) (by omega) (fun E h' n' _ z => pmc_x z) (pmc_k ox_first (fun u un ub uk uv uR uF => ?_))
      refine sw_istore (pc' := 1807) (lv' := [(6, _), (5, _), (4, _), (3, _), (2, _), (1, _), (0, _)]) rfl dL_law_1805 (by decide +kernel) rfl ?_
      refine sw_goto (tgt := 1945) dL_law_1807 (by decide +kernel) ?_
      have J : LI L xs u un (opFirst σ (xs (i + 1)) 0).2 (N + 12) := ⟨pR.frT (fun i hi => uF i (by omega) (by omega)), ⟨_, uR⟩, hT.fr (fun i hi => (uF i (by omega) (by omega)).trans (pF i (by omega) (by omega) (by omega))), iv_first hV, ⟨_, _, (uF 158 (by omega) (by omega)).trans pO⟩, (uF 0 (by omega) (by omega)).trans ((pF 0 (by omega) (by omega) (by omega)).trans hs), by omega⟩
      exact SW.pick [2, 3, 4, 5, 6] rfl ((K u un _ (by omega) J).bud (by omega) (by omega))
    · exact absurd c1767 c1794
  · refine sw_iconst (pc' := 1771) (v := 1) rfl dL_law_1770 (by decide +kernel) ?_
    refine sw_goto (tgt := 1775) dL_law_1771 (by decide +kernel) ?_
    refine sw_aload_n (pc' := 1776) rfl dL_law_1775 rfl ?_
    refine sw_S (M' := ML_first) (d' := d - 1) (bc' := 60) (bs' := 400) (as := [_, _, _, _]) dL_law_1776 w_1083 ok_L_first (L_first hR hT hV hN hO hn (by omega) (Nat.le_refl _) (Nat.le_refl _)) (by omega) (Nat.le_of_ble_eq_true rfl) (by omega) (by omega) (fun E h' n' _ z => lpo_x z) (lpo_k (fun p pn pw ps pk pR pO pv pF => ?_))
    refine sw_istore (pc' := 1781) (lv' := [(5, _), (4, _), (3, _), (2, _), (1, _), (0, _)]) rfl dL_law_1779 (by decide +kernel) rfl ?_
    refine sw_aload_n (pc' := 1782) rfl dL_law_1781 rfl ?_
    refine sw_aload_n (pc' := 1783) rfl dL_law_1782 rfl ?_
    refine sw_iload (pc' := 1785) rfl dL_law_1783 rfl ?_
    refine sw_iconst (pc' := 1786) (v := 1) rfl dL_law_1785 (by decide +kernel) ?_
    refine sw_iadd (pc' := 1787) rfl dL_law_1786 ?_
    rw [show (nI i) + 1 = nI (i + 1) from nI_add _ _]
    refine sw_iald (j := i + 1) (pc' := 1788) rfl dL_law_1787 ((pF 0 (by omega) (by omega) (by omega)).trans hs) rfl (by omega) (by omega) ?_
    refine sw_aload_n (pc' := 1789) rfl dL_law_1788 rfl ?_
    refine sw_iload (pc' := 1791) rfl dL_law_1789 rfl ?_
    refine sw_iconst (pc' := 1792) (v := 2) rfl dL_law_1791 (by decide +kernel) ?_
    refine sw_iadd (pc' := 1793) rfl dL_law_1792 ?_
    rw [show (nI i) + 2 = nI (i + 2) from nI_add _ _]
    refine sw_iald (j := i + 2) (pc' := 1794) rfl dL_law_1793 ((pF 0 (by omega) (by omega) (by omega)).trans hs) rfl (by omega) (by omega) ?_
    refine sw_if_eq (pc' := 1797) (tgt := 1801) rfl dL_law_1794 (by decide +kernel) (fun c1794 => ?_) (fun c1794 => ?_)
    · exact absurd c1794 c1767
    · refine sw_iconst (pc' := 1798) (v := 1) rfl dL_law_1797 (by decide +kernel) ?_
      refine sw_goto (tgt := 1802) dL_law_1798 (by decide +kernel) ?_
      have hQ2 := hQ.fr (fun i a b => pF i (by omega) (by omega) (by omega))
      obtain ⟨ρ, τ, hM, hA⟩ := id hQ2
      refine sw_V (M' := MX5_first) (d' := d - 1) (bc' := 1) (bs' := 12) (ci := 6) (as := [_, _]) dL_law_1802 w_1447 ok_X5_first (q_first hQ2 (hV.iv hN) (by omega) (by omega) (Nat.le_refl _) (Nat.le_refl _)) hM.ob rfl (by omega) (Nat.le_of_ble_eq_true rfl) (by omega) (by omega) (fun E h' n' _ z => pmc_x z) (pmc_k ox_first (fun u un ub uk uv uR uF => ?_))
      refine sw_istore (pc' := 1807) (lv' := [(6, _), (5, _), (4, _), (3, _), (2, _), (1, _), (0, _)]) rfl dL_law_1805 (by decide +kernel) rfl ?_
      refine sw_goto (tgt := 1945) dL_law_1807 (by decide +kernel) ?_
      have J : LI L xs u un (opFirst σ (xs (i + 1)) 1).2 (N + 12) := ⟨pR.frT (fun i hi => uF i (by omega) (by omega)), ⟨_, uR⟩, hT.fr (fun i hi => (uF i (by omega) (by omega)).trans (pF i (by omega) (by omega) (by omega))), iv_first hV, ⟨_, _, (uF 158 (by omega) (by omega)).trans pO⟩, (uF 0 (by omega) (by omega)).trans ((pF 0 (by omega) (by omega) (by omega)).trans hs), by omega⟩
      exact SW.pick [2, 3, 4, 5, 6] rfl ((K u un _ (by omega) J).bud (by omega) (by omega))
theorem lc_38 {L : Nat} {xs : Nat → Int32} {h : AH} {n i N d bc bs : Nat} {σ : CS} {Post : ARes → AH → Nat → Prop} (hI : LI L xs h n σ N) (hN : N < 2 ^ 31) (hL : L ≤ 3072) (hi : i + 6 ≤ L) (hd : 20 ≤ d) (h1 : 380 ≤ bc) (h2 : 4500 ≤ bs) (K : ∀ (h' : AH) (n' : Nat) (σ' : CS), n ≤ n' → LI L xs h' n' σ' (N + 12) → SW SR0 ML_law d (bc - 380) (bs - 4500) 1945 [(4, .int (nI i)), (3, .ref 158), (2, .ref 135), (1, .ref 100), (0, .ref 0)] [] h' n' Post) : SW SR0 ML_law d bc bs 1810 [(4, .int (nI i)), (3, .ref 158), (2, .ref 135), (1, .ref 100), (0, .ref 0)] [] h n Post := by
  obtain ⟨hR, ⟨th, hQ⟩, hT, hV, ⟨w, s, hO⟩, hs, hn⟩ := hI
  refine sw_aload_n (pc' := 1811) rfl dL_law_1810 rfl ?_
  refine sw_aload_n (pc' := 1812) rfl dL_law_1811 rfl ?_
  refine sw_iload (pc' := 1814) rfl dL_law_1812 rfl ?_
  refine sw_iconst (pc' := 1815) (v := 1) rfl dL_law_1814 (by decide +kernel) ?_
  refine sw_iadd (pc' := 1816) rfl dL_law_1815 ?_
  rw [show (nI i) + 1 = nI (i + 1) from nI_add _ _]
  refine sw_iald (j := i + 1) (pc' := 1817) rfl dL_law_1816 hs rfl (by omega) (by omega) ?_
  refine sw_aload_n (pc' := 1818) rfl dL_law_1817 rfl ?_
  refine sw_S (M' := ML_valueOf) (d' := d - 1) (bc' := 60) (bs' := 400) (as := [_, _, _]) dL_law_1818 w_1090 ok_L_valueOf (L_valueOf hR hT hV hN hO hn (by omega) (Nat.le_refl _) (Nat.le_refl _)) (by omega) (Nat.le_of_ble_eq_true rfl) (by omega) (by omega) (fun E h' n' _ z => lpo_x z) (lpo_k (fun p pn pw ps pk pR pO pv pF => ?_))
  refine sw_istore (pc' := 1823) (lv' := [(5, _), (4, _), (3, _), (2, _), (1, _), (0, _)]) rfl dL_law_1821 (by decide +kernel) rfl ?_
  refine sw_aload_n (pc' := 1824) rfl dL_law_1823 rfl ?_
  refine sw_aload_n (pc' := 1825) rfl dL_law_1824 rfl ?_
  refine sw_iload (pc' := 1827) rfl dL_law_1825 rfl ?_
  refine sw_iconst (pc' := 1828) (v := 1) rfl dL_law_1827 (by decide +kernel) ?_
  refine sw_iadd (pc' := 1829) rfl dL_law_1828 ?_
  rw [show (nI i) + 1 = nI (i + 1) from nI_add _ _]
  refine sw_iald (j := i + 1) (pc' := 1830) rfl dL_law_1829 ((pF 0 (by omega) (by omega) (by omega)).trans hs) rfl (by omega) (by omega) ?_
  have hQ2 := hQ.fr (fun i a b => pF i (by omega) (by omega) (by omega))
  obtain ⟨ρ, τ, hM, hA⟩ := id hQ2
  refine sw_V (M' := MX5_valueOf) (d' := d - 1) (bc' := 1) (bs' := 12) (ci := 6) (as := [_]) dL_law_1830 w_1451 ok_X5_valueOf (q_valueOf hQ2 (hV.iv hN) (by omega) (by omega) (Nat.le_refl _) (Nat.le_refl _)) hM.ob rfl (by omega) (Nat.le_of_ble_eq_true rfl) (by omega) (by omega) (fun E h' n' _ z => pmc_x z) (pmc_k ox_valueOf (fun u un ub uk uv uR uF => ?_))
  refine sw_istore (pc' := 1835) (lv' := [(6, _), (5, _), (4, _), (3, _), (2, _), (1, _), (0, _)]) rfl dL_law_1833 (by decide +kernel) rfl ?_
  refine sw_goto (tgt := 1945) dL_law_1835 (by decide +kernel) ?_
  have J : LI L xs u un (opValueOf σ (xs (i + 1))).2 (N + 12) := ⟨pR.frT (fun i hi => uF i (by omega) (by omega)), ⟨_, uR⟩, hT.fr (fun i hi => (uF i (by omega) (by omega)).trans (pF i (by omega) (by omega) (by omega))), iv_valueOf hV, ⟨_, _, (uF 158 (by omega) (by omega)).trans pO⟩, (uF 0 (by omega) (by omega)).trans ((pF 0 (by omega) (by omega) (by omega)).trans hs), by omega⟩
  exact SW.pick [2, 3, 4, 5, 6] rfl ((K u un _ (by omega) J).bud (by omega) (by omega))
theorem lc_39 {L : Nat} {xs : Nat → Int32} {h : AH} {n i N d bc bs : Nat} {σ : CS} {Post : ARes → AH → Nat → Prop} (hI : LI L xs h n σ N) (hN : N < 2 ^ 31) (hL : L ≤ 3072) (hi : i + 6 ≤ L) (hd : 20 ≤ d) (h1 : 380 ≤ bc) (h2 : 4500 ≤ bs) (K : ∀ (h' : AH) (n' : Nat) (σ' : CS), n ≤ n' → LI L xs h' n' σ' (N + 12) → SW SR0 ML_law d (bc - 380) (bs - 4500) 1945 [(4, .int (nI i)), (3, .ref 158), (2, .ref 135), (1, .ref 100), (0, .ref 0)] [] h' n' Post) : SW SR0 ML_law d bc bs 1838 [(4, .int (nI i)), (3, .ref 158), (2, .ref 135), (1, .ref 100), (0, .ref 0)] [] h n Post := by
  obtain ⟨hR, ⟨th, hQ⟩, hT, hV, ⟨w, s, hO⟩, hs, hn⟩ := hI
  refine sw_aload_n (pc' := 1839) rfl dL_law_1838 rfl ?_
  refine sw_aload_n (pc' := 1840) rfl dL_law_1839 rfl ?_
  refine sw_iload (pc' := 1842) rfl dL_law_1840 rfl ?_
  refine sw_iconst (pc' := 1843) (v := 1) rfl dL_law_1842 (by decide +kernel) ?_
  refine sw_iadd (pc' := 1844) rfl dL_law_1843 ?_
  rw [show (nI i) + 1 = nI (i + 1) from nI_add _ _]
  refine sw_iald (j := i + 1) (pc' := 1845) rfl dL_law_1844 hs rfl (by omega) (by omega) ?_
  refine sw_aload_n (pc' := 1846) rfl dL_law_1845 rfl ?_
  refine sw_iload (pc' := 1848) rfl dL_law_1846 rfl ?_
  refine sw_iconst (pc' := 1849) (v := 2) rfl dL_law_1848 (by decide +kernel) ?_
  refine sw_iadd (pc' := 1850) rfl dL_law_1849 ?_
  rw [show (nI i) + 2 = nI (i + 2) from nI_add _ _]
  refine sw_iald (j := i + 2) (pc' := 1851) rfl dL_law_1850 hs rfl (by omega) (by omega) ?_
  refine sw_aload_n (pc' := 1852) rfl dL_law_1851 rfl ?_
  refine sw_S (M' := ML_ofWalk) (d' := d - 1) (bc' := 60) (bs' := 400) (as := [_, _, _, _]) dL_law_1852 w_1097 ok_L_ofWalk (L_ofWalk hR hT hV hN hO hn (by omega) (Nat.le_refl _) (Nat.le_refl _)) (by omega) (Nat.le_of_ble_eq_true rfl) (by omega) (by omega) (fun E h' n' _ z => lpo_x z) (lpo_k (fun p pn pw ps pk pR pO pv pF => ?_))
  refine sw_istore (pc' := 1857) (lv' := [(5, _), (4, _), (3, _), (2, _), (1, _), (0, _)]) rfl dL_law_1855 (by decide +kernel) rfl ?_
  refine sw_aload_n (pc' := 1858) rfl dL_law_1857 rfl ?_
  refine sw_aload_n (pc' := 1859) rfl dL_law_1858 rfl ?_
  refine sw_iload (pc' := 1861) rfl dL_law_1859 rfl ?_
  refine sw_iconst (pc' := 1862) (v := 1) rfl dL_law_1861 (by decide +kernel) ?_
  refine sw_iadd (pc' := 1863) rfl dL_law_1862 ?_
  rw [show (nI i) + 1 = nI (i + 1) from nI_add _ _]
  refine sw_iald (j := i + 1) (pc' := 1864) rfl dL_law_1863 ((pF 0 (by omega) (by omega) (by omega)).trans hs) rfl (by omega) (by omega) ?_
  refine sw_aload_n (pc' := 1865) rfl dL_law_1864 rfl ?_
  refine sw_iload (pc' := 1867) rfl dL_law_1865 rfl ?_
  refine sw_iconst (pc' := 1868) (v := 2) rfl dL_law_1867 (by decide +kernel) ?_
  refine sw_iadd (pc' := 1869) rfl dL_law_1868 ?_
  rw [show (nI i) + 2 = nI (i + 2) from nI_add _ _]
  refine sw_iald (j := i + 2) (pc' := 1870) rfl dL_law_1869 ((pF 0 (by omega) (by omega) (by omega)).trans hs) rfl (by omega) (by omega) ?_
  have hQ2 := hQ.fr (fun i a b => pF i (by omega) (by omega) (by omega))
  obtain ⟨ρ, τ, hM, hA⟩ := id hQ2
  refine sw_V (M' := MX5_ofWalk) (d' := d - 1) (bc' := 1) (bs' := 12) (ci := 6) (as := [_, _]) dL_law_1870 w_1455 ok_X5_ofWalk (q_ofWalk hQ2 (hV.iv hN) (by omega) (by omega) (Nat.le_refl _) (Nat.le_refl _)) hM.ob rfl (by omega) (Nat.le_of_ble_eq_true rfl) (by omega) (by omega) (fun E h' n' _ z => pmc_x z) (pmc_k ox_ofWalk (fun u un ub uk uv uR uF => ?_))
  refine sw_istore (pc' := 1875) (lv' := [(6, _), (5, _), (4, _), (3, _), (2, _), (1, _), (0, _)]) rfl dL_law_1873 (by decide +kernel) rfl ?_
  refine sw_goto (tgt := 1945) dL_law_1875 (by decide +kernel) ?_
  have J : LI L xs u un (opOfWalk σ (xs (i + 1)) (xs (i + 2))).2 (N + 12) := ⟨pR.frT (fun i hi => uF i (by omega) (by omega)), ⟨_, uR⟩, hT.fr (fun i hi => (uF i (by omega) (by omega)).trans (pF i (by omega) (by omega) (by omega))), iv_ofWalk hV, ⟨_, _, (uF 158 (by omega) (by omega)).trans pO⟩, (uF 0 (by omega) (by omega)).trans ((pF 0 (by omega) (by omega) (by omega)).trans hs), by omega⟩
  exact SW.pick [2, 3, 4, 5, 6] rfl ((K u un _ (by omega) J).bud (by omega) (by omega))
theorem lc_40 {L : Nat} {xs : Nat → Int32} {h : AH} {n i N d bc bs : Nat} {σ : CS} {Post : ARes → AH → Nat → Prop} (hI : LI L xs h n σ N) (hN : N < 2 ^ 31) (hL : L ≤ 3072) (hi : i + 6 ≤ L) (hd : 20 ≤ d) (h1 : 380 ≤ bc) (h2 : 4500 ≤ bs) (K : ∀ (h' : AH) (n' : Nat) (σ' : CS), n ≤ n' → LI L xs h' n' σ' (N + 12) → SW SR0 ML_law d (bc - 380) (bs - 4500) 1945 [(4, .int (nI i)), (3, .ref 158), (2, .ref 135), (1, .ref 100), (0, .ref 0)] [] h' n' Post) : SW SR0 ML_law d bc bs 1878 [(4, .int (nI i)), (3, .ref 158), (2, .ref 135), (1, .ref 100), (0, .ref 0)] [] h n Post := by
  obtain ⟨hR, ⟨th, hQ⟩, hT, hV, ⟨w, s, hO⟩, hs, hn⟩ := hI
  refine sw_aload_n (pc' := 1879) rfl dL_law_1878 rfl ?_
  refine sw_aload_n (pc' := 1880) rfl dL_law_1879 rfl ?_
  refine sw_iload (pc' := 1882) rfl dL_law_1880 rfl ?_
  refine sw_iconst (pc' := 1883) (v := 1) rfl dL_law_1882 (by decide +kernel) ?_
  refine sw_iadd (pc' := 1884) rfl dL_law_1883 ?_
  rw [show (nI i) + 1 = nI (i + 1) from nI_add _ _]
  refine sw_iald (j := i + 1) (pc' := 1885) rfl dL_law_1884 hs rfl (by omega) (by omega) ?_
  refine sw_aload_n (pc' := 1886) rfl dL_law_1885 rfl ?_
  refine sw_S (M' := ML_house) (d' := d - 1) (bc' := 60) (bs' := 400) (as := [_, _, _]) dL_law_1886 w_1101 ok_L_house (L_house hR hT hV hN hO hn (by omega) (Nat.le_refl _) (Nat.le_refl _)) (by omega) (Nat.le_of_ble_eq_true rfl) (by omega) (by omega) (fun E h' n' _ z => lpo_x z) (lpo_k (fun p pn pw ps pk pR pO pv pF => ?_))
  refine sw_istore (pc' := 1891) (lv' := [(5, _), (4, _), (3, _), (2, _), (1, _), (0, _)]) rfl dL_law_1889 (by decide +kernel) rfl ?_
  refine sw_aload_n (pc' := 1892) rfl dL_law_1891 rfl ?_
  refine sw_aload_n (pc' := 1893) rfl dL_law_1892 rfl ?_
  refine sw_iload (pc' := 1895) rfl dL_law_1893 rfl ?_
  refine sw_iconst (pc' := 1896) (v := 1) rfl dL_law_1895 (by decide +kernel) ?_
  refine sw_iadd (pc' := 1897) rfl dL_law_1896 ?_
  rw [show (nI i) + 1 = nI (i + 1) from nI_add _ _]
  refine sw_iald (j := i + 1) (pc' := 1898) rfl dL_law_1897 ((pF 0 (by omega) (by omega) (by omega)).trans hs) rfl (by omega) (by omega) ?_
  have hQ2 := hQ.fr (fun i a b => pF i (by omega) (by omega) (by omega))
  obtain ⟨ρ, τ, hM, hA⟩ := id hQ2
  refine sw_V (M' := MX5_house) (d' := d - 1) (bc' := 1) (bs' := 12) (ci := 6) (as := [_]) dL_law_1898 w_1463 ok_X5_house (q_house hQ2 (hV.iv hN) (by omega) (by omega) (Nat.le_refl _) (Nat.le_refl _)) hM.ob rfl (by omega) (Nat.le_of_ble_eq_true rfl) (by omega) (by omega) (fun E h' n' _ z => pmc_x z) (pmc_k ox_house (fun u un ub uk uv uR uF => ?_))
  refine sw_istore (pc' := 1903) (lv' := [(6, _), (5, _), (4, _), (3, _), (2, _), (1, _), (0, _)]) rfl dL_law_1901 (by decide +kernel) rfl ?_
  refine sw_goto (tgt := 1945) dL_law_1903 (by decide +kernel) ?_
  have J : LI L xs u un (opHouse σ (xs (i + 1))).2 (N + 12) := ⟨pR.frT (fun i hi => uF i (by omega) (by omega)), ⟨_, uR⟩, hT.fr (fun i hi => (uF i (by omega) (by omega)).trans (pF i (by omega) (by omega) (by omega))), iv_house hV, ⟨_, _, (uF 158 (by omega) (by omega)).trans pO⟩, (uF 0 (by omega) (by omega)).trans ((pF 0 (by omega) (by omega) (by omega)).trans hs), by omega⟩
  exact SW.pick [2, 3, 4, 5, 6] rfl ((K u un _ (by omega) J).bud (by omega) (by omega))
theorem lc_41 {L : Nat} {xs : Nat → Int32} {h : AH} {n i N d bc bs : Nat} {σ : CS} {Post : ARes → AH → Nat → Prop} (hI : LI L xs h n σ N) (hN : N < 2 ^ 31) (hL : L ≤ 3072) (hi : i + 6 ≤ L) (hd : 20 ≤ d) (h1 : 380 ≤ bc) (h2 : 4500 ≤ bs) (K : ∀ (h' : AH) (n' : Nat) (σ' : CS), n ≤ n' → LI L xs h' n' σ' (N + 12) → SW SR0 ML_law d (bc - 380) (bs - 4500) 1945 [(4, .int (nI i)), (3, .ref 158), (2, .ref 135), (1, .ref 100), (0, .ref 0)] [] h' n' Post) : SW SR0 ML_law d bc bs 1906 [(4, .int (nI i)), (3, .ref 158), (2, .ref 135), (1, .ref 100), (0, .ref 0)] [] h n Post := by
  obtain ⟨hR, ⟨th, hQ⟩, hT, hV, ⟨w, s, hO⟩, hs, hn⟩ := hI
  refine sw_aload_n (pc' := 1907) rfl dL_law_1906 rfl ?_
  refine sw_V (M' := MX3_knock) (d' := d - 1) (bc' := 0) (bs' := 0) (ci := 4) (as := []) dL_law_1907 w_172 ok_X3_knock (m_knock hR) hR.1 rfl (by omega) (Nat.le_of_ble_eq_true rfl) (Nat.zero_le _) (Nat.zero_le _) (fun E h' n' _ z => cp_x z) (cp_k (fun p pR pF => ?_))
  refine sw_pop (pc' := 1911) rfl dL_law_1910 rfl ?_
  refine sw_aload_n (pc' := 1912) rfl dL_law_1911 rfl ?_
  obtain ⟨ρ, τ, hM, hA⟩ := hQ.fr (fun i a b => pF i (by omega) (by omega))
  refine sw_V (M' := MX5_knock) (d' := d - 1) (bc' := 0) (bs' := 0) (ci := 6) (as := []) dL_law_1912 w_1471 ok_X5_knock (q_knock hM hA) hM.ob rfl (by omega) (Nat.le_of_ble_eq_true rfl) (Nat.zero_le _) (Nat.zero_le _) (fun E h' n' _ z => rp_x z) (rp_k (fun u uρ uτ uM uA uF => ?_))
  refine sw_pop (pc' := 1916) rfl dL_law_1915 rfl ?_
  refine sw_goto (tgt := 1945) dL_law_1916 (by decide +kernel) ?_
  have J : LI L xs u n (knU σ) (N + 12) := ⟨pR.frT (fun i hi => uF i (by omega) (by omega)), ⟨_, _, _, uM, uA⟩, hT.fr (fun i hi => (uF i (by omega) (by omega)).trans (pF i (by omega) (by omega))), hV.kn.mono (by omega), ⟨_, _, (uF 158 (by omega) (by omega)).trans ((pF 158 (by omega) (by omega)).trans hO)⟩, (uF 0 (by omega) (by omega)).trans ((pF 0 (by omega) (by omega)).trans hs), by omega⟩
  exact SW.pick [0, 1, 2, 3, 4] rfl ((K u n _ (by omega) J).bud (by omega) (by omega))
theorem lc_42 {L : Nat} {xs : Nat → Int32} {h : AH} {n i N d bc bs : Nat} {σ : CS} {Post : ARes → AH → Nat → Prop} (hI : LI L xs h n σ N) (hN : N < 2 ^ 31) (hL : L ≤ 3072) (hi : i + 6 ≤ L) (hd : 20 ≤ d) (h1 : 380 ≤ bc) (h2 : 4500 ≤ bs) (K : ∀ (h' : AH) (n' : Nat) (σ' : CS), n ≤ n' → LI L xs h' n' σ' (N + 12) → SW SR0 ML_law d (bc - 380) (bs - 4500) 1945 [(4, .int (nI i)), (3, .ref 158), (2, .ref 135), (1, .ref 100), (0, .ref 0)] [] h' n' Post) : SW SR0 ML_law d bc bs 1919 [(4, .int (nI i)), (3, .ref 158), (2, .ref 135), (1, .ref 100), (0, .ref 0)] [] h n Post := by
  obtain ⟨hR, ⟨th, hQ⟩, hT, hV, ⟨w, s, hO⟩, hs, hn⟩ := hI
  refine sw_aload_n (pc' := 1920) rfl dL_law_1919 rfl ?_
  refine sw_V (M' := MX3_isSound) (d' := d - 1) (bc' := 0) (bs' := 0) (ci := 4) (as := []) dL_law_1920 w_176 ok_X3_isSound (m_isSound hR (by omega)) hR.1 rfl (by omega) (Nat.le_of_ble_eq_true rfl) (Nat.zero_le _) (Nat.zero_le _) (fun E h' n' _ z => cp_x z) (cp_k (fun p pR pF => ?_))
  refine sw_pop (pc' := 1924) rfl dL_law_1923 rfl ?_
  refine sw_aload_n (pc' := 1925) rfl dL_law_1924 rfl ?_
  obtain ⟨ρ, τ, hM, hA⟩ := hQ.fr (fun i a b => pF i (by omega) (by omega))
  refine sw_V (M' := MX5_isSound) (d' := d - 1) (bc' := 0) (bs' := 0) (ci := 6) (as := []) dL_law_1925 w_1475 ok_X5_isSound (q_isSound hM hA) hM.ob rfl (by omega) (Nat.le_of_ble_eq_true rfl) (Nat.zero_le _) (Nat.zero_le _) (fun E h' n' _ z => rp_x z) (rp_k (fun u uρ uτ uM uA uF => ?_))
  refine sw_pop (pc' := 1929) rfl dL_law_1928 rfl ?_
  refine sw_goto (tgt := 1945) dL_law_1929 (by decide +kernel) ?_
  have J : LI L xs u n σ (N + 12) := ⟨pR.frT (fun i hi => uF i (by omega) (by omega)), ⟨_, _, _, uM, uA⟩, hT.fr (fun i hi => (uF i (by omega) (by omega)).trans (pF i (by omega) (by omega))), hV.mono (by omega), ⟨_, _, (uF 158 (by omega) (by omega)).trans ((pF 158 (by omega) (by omega)).trans hO)⟩, (uF 0 (by omega) (by omega)).trans ((pF 0 (by omega) (by omega)).trans hs), by omega⟩
  exact SW.pick [0, 1, 2, 3, 4] rfl ((K u n _ (by omega) J).bud (by omega) (by omega))
theorem lc_43 {L : Nat} {xs : Nat → Int32} {h : AH} {n i N d bc bs : Nat} {σ : CS} {Post : ARes → AH → Nat → Prop} (hI : LI L xs h n σ N) (hN : N < 2 ^ 31) (hL : L ≤ 3072) (hi : i + 6 ≤ L) (hd : 20 ≤ d) (h1 : 380 ≤ bc) (h2 : 4500 ≤ bs) (K : ∀ (h' : AH) (n' : Nat) (σ' : CS), n ≤ n' → LI L xs h' n' σ' (N + 12) → SW SR0 ML_law d (bc - 380) (bs - 4500) 1945 [(4, .int (nI i)), (3, .ref 158), (2, .ref 135), (1, .ref 100), (0, .ref 0)] [] h' n' Post) : SW SR0 ML_law d bc bs 1932 [(4, .int (nI i)), (3, .ref 158), (2, .ref 135), (1, .ref 100), (0, .ref 0)] [] h n Post := by
  obtain ⟨hR, ⟨th, hQ⟩, hT, hV, ⟨w, s, hO⟩, hs, hn⟩ := hI
  refine sw_aload_n (pc' := 1933) rfl dL_law_1932 rfl ?_
  refine sw_V (M' := MX3_digest) (d' := d - 1) (bc' := 24) (bs' := 144) (ci := 4) (as := []) dL_law_1933 w_251 ok_X3_digest (m_digest hR (by omega) (Nat.le_refl _) (Nat.le_refl _)) hR.1 rfl (by omega) (Nat.le_of_ble_eq_true rfl) (by omega) (by omega) (fun E h' n' _ z => cp_x z) (cp_k (fun p pR pF => ?_))
  refine sw_pop2 (pc' := 1937) rfl dL_law_1936 rfl ?_
  refine sw_aload_n (pc' := 1938) rfl dL_law_1937 rfl ?_
  have hQ2 := hQ.fr (fun i a b => pF i (by omega) (by omega))
  obtain ⟨ρ, τ, hM, hA⟩ := id hQ2
  refine sw_V (M' := MX5_digest) (d' := d - 1) (bc' := 40) (bs' := 400) (ci := 6) (as := []) dL_law_1938 w_1479 ok_X5_digest (q_digest hQ2 (hV.iv hN) hV.sn hn (by omega) (Nat.le_refl _) (Nat.le_refl _)) hM.ob rfl (by omega) (Nat.le_of_ble_eq_true rfl) (by omega) (by omega) (fun E h' n' _ z => absurd z.1 (fun e => by cases e)) (dpc_k (fun u un uk uR uF => ?_))
  refine sw_pop2 (pc' := 1942) rfl dL_law_1941 rfl ?_
  refine sw_goto (tgt := 1945) dL_law_1942 (by decide +kernel) ?_
  have J : LI L xs u un σ (N + 12) := ⟨pR.frT (fun i hi => uF i (by omega) (by omega)), ⟨_, uR⟩, hT.fr (fun i hi => (uF i (by omega) (by omega)).trans (pF i (by omega) (by omega))), hV.mono (by omega), ⟨_, _, (uF 158 (by omega) (by omega)).trans ((pF 158 (by omega) (by omega)).trans hO)⟩, (uF 0 (by omega) (by omega)).trans ((pF 0 (by omega) (by omega)).trans hs), by omega⟩
  exact SW.pick [0, 1, 2, 3, 4] rfl ((K u un _ (by omega) J).bud (by omega) (by omega))
end
section
/-! 58.law -/
/-! the law -/
theorem and63 (x : Int32) : ∃ k, k < 64 ∧ x &&& 63 = nI k := by
  refine ⟨(x &&& 63).toBitVec.toNat, ?_, ?_⟩
  · rw [Int32.toBitVec_and]
    show (x.toBitVec &&& 63#32).toNat < 64
    rw [BitVec.toNat_and]
    exact Nat.lt_of_le_of_lt Nat.and_le_right (by decide +kernel)
  · apply Int32.toBitVec_inj.mp
    show _ = BitVec.ofNat 32 _
    rw [BitVec.ofNat_toNat, BitVec.setWidth_eq]
theorem sub6 {L i : Nat} (hL : L ≤ 3072) (hi : i ≤ 4000) : nI L - 6 < nI i ↔ L < i + 6 := by
  rw [Int32.lt_iff_toInt_lt, Int32.toInt_sub, show (nI L).toInt = (L : Int) from nI_toInt (by omega), show (nI i).toInt = (i : Int) from nI_toInt (by omega), show (6 : Int32).toInt = 6 from rfl, Int.bmod_eq_of_le (by omega) (by omega)]
  omega
theorem LI.up {L : Nat} {xs : Nat → Int32} {h : AH} {n N : Nat} {σ : CS} (hI : LI L xs h n σ N) : LI L xs h n σ (N + 12) := ⟨hI.1, hI.2.1, hI.2.2.1, hI.2.2.2.1.mono (by omega), hI.2.2.2.2⟩
theorem ll_loop {L d : Nat} {xs : Nat → Int32} {Post : ARes → AH → Nat → Prop} (hL : L ≤ 3072) (hd : 20 ≤ d) (hP : ∀ h n, Post (.inl (some (.int 1))) h n) (m : Nat) : ∀ (i n N bc bs : Nat) (h : AH) (σ : CS), LI L xs h n σ N → N + 12 * m < 2 ^ 31 → L < i + 6 * m + 6 → i ≤ L + 6 → 380 * m ≤ bc → 4500 * m ≤ bs → SW SR0 ML_law d bc bs 27 [(4, .int (nI i)), (3, .ref 158), (2, .ref 135), (1, .ref 100), (0, .ref 0)] [] h n Post := by
  induction m with
  | zero =>
    intro i n N bc bs h σ hI hN hm hi h1 h2
    have hs := hI.2.2.2.2.2.1
    refine sw_iload (pc' := 29) rfl dL_law_27 rfl ?_
    refine sw_aload_n (pc' := 30) rfl dL_law_29 rfl ?_
    refine sw_alen (pc' := 31) rfl dL_law_30 hs (by decide +kernel) (Or.inr ⟨by decide +kernel, _, rfl⟩) ?_
    refine sw_bipush (pc' := 33) (v := 6) rfl dL_law_31 (by decide +kernel) ?_
    refine sw_isub (pc' := 34) rfl dL_law_33 ?_
    refine sw_icmp_gt (pc' := 37) (tgt := 1951) rfl dL_law_34 (by decide +kernel) (fun c34 => ?_) (fun c34 => ?_)
    · refine sw_iconst (pc' := 1952) (v := 1) rfl dL_law_1951 (by decide +kernel) ?_
      refine sw_ret (v := some _) ⟨dL_law_1952, _, rfl, rfl⟩ ?_
      exact hP _ _
    · exact absurd ((sub6 hL (by omega)).mpr (by omega)) c34
  | succ m ih =>
    intro i n N bc bs h σ hI hN hm hi h1 h2
    have hs := hI.2.2.2.2.2.1
    by_cases q : i + 6 ≤ L
    · have K : ∀ (h' : AH) (n' : Nat) (σ' : CS), n ≤ n' → LI L xs h' n' σ' (N + 12) → SW SR0 ML_law d (bc - 380) (bs - 4500) 1945 [(4, .int (nI i)), (3, .ref 158), (2, .ref 135), (1, .ref 100), (0, .ref 0)] [] h' n' Post := by
        intro h' n' σ' hn J
        have hs := J.2.2.2.2.2.1
        refine sw_iinc (pc' := 1948) (lv' := [(4, _), (3, _), (2, _), (1, _), (0, _)]) (v := nI (i + 6)) rfl dL_law_1945 rfl (nI_add i 6) (by decide +kernel) rfl ?_
        refine sw_goto (tgt := 27) dL_law_1948 (by decide +kernel) ?_
        exact ih (i + 6) n' (N + 12) _ _ h' σ' J (by omega) (by omega) (by omega) (by omega) (by omega)
      refine sw_iload (pc' := 29) rfl dL_law_27 rfl ?_
      refine sw_aload_n (pc' := 30) rfl dL_law_29 rfl ?_
      refine sw_alen (pc' := 31) rfl dL_law_30 hs (by decide +kernel) (Or.inr ⟨by decide +kernel, _, rfl⟩) ?_
      refine sw_bipush (pc' := 33) (v := 6) rfl dL_law_31 (by decide +kernel) ?_
      refine sw_isub (pc' := 34) rfl dL_law_33 ?_
      refine sw_icmp_gt (pc' := 37) (tgt := 1951) rfl dL_law_34 (by decide +kernel) (fun c34 => ?_) (fun c34 => ?_)
      · exact absurd ((sub6 hL (by omega)).mp c34) (by omega)
      · refine sw_aload_n (pc' := 38) rfl dL_law_37 rfl ?_
        refine sw_iload (pc' := 40) rfl dL_law_38 rfl ?_
        refine sw_iald (j := i) (pc' := 41) rfl dL_law_40 hs rfl (by omega) (by omega) ?_
        refine sw_bipush (pc' := 43) (v := 63) rfl dL_law_41 (by decide +kernel) ?_
        refine sw_iand (pc' := 44) rfl dL_law_43 ?_
        obtain ⟨k, hk, ek⟩ := and63 (xs i)
        rw [ek]
        by_cases k9 : k < 44
        · rcases (show k = 0 ∨ k = 1 ∨ k = 2 ∨ k = 3 ∨ k = 4 ∨ k = 5 ∨ k = 6 ∨ k = 7 ∨ k = 8 ∨ k = 9 ∨ k = 10 ∨ k = 11 ∨ k = 12 ∨ k = 13 ∨ k = 14 ∨ k = 15 ∨ k = 16 ∨ k = 17 ∨ k = 18 ∨ k = 19 ∨ k = 20 ∨ k = 21 ∨ k = 22 ∨ k = 23 ∨ k = 24 ∨ k = 25 ∨ k = 26 ∨ k = 27 ∨ k = 28 ∨ k = 29 ∨ k = 30 ∨ k = 31 ∨ k = 32 ∨ k = 33 ∨ k = 34 ∨ k = 35 ∨ k = 36 ∨ k = 37 ∨ k = 38 ∨ k = 39 ∨ k = 40 ∨ k = 41 ∨ k = 42 ∨ k = 43 by omega) with rfl | rfl | rfl | rfl | rfl | rfl | rfl | rfl | rfl | rfl | rfl | rfl | rfl | rfl | rfl | rfl | rfl | rfl | rfl | rfl | rfl | rfl | rfl | rfl | rfl | rfl | rfl | rfl | rfl | rfl | rfl | rfl | rfl | rfl | rfl | rfl | rfl | rfl | rfl | rfl | rfl | rfl | rfl | rfl
          · refine sw_tableIn (tgt := 236) dL_law_44 (by decide +kernel) (by decide +kernel) (by rfl) (by decide +kernel) ?_
            exact lc_0 hI (by omega) hL q hd (by omega) (by omega) K
          · refine sw_tableIn (tgt := 276) dL_law_44 (by decide +kernel) (by decide +kernel) (by rfl) (by decide +kernel) ?_
            exact lc_1 hI (by omega) hL q hd (by omega) (by omega) K
          · refine sw_tableIn (tgt := 352) dL_law_44 (by decide +kernel) (by decide +kernel) (by rfl) (by decide +kernel) ?_
            exact lc_2 hI (by omega) hL q hd (by omega) (by omega) K
          · refine sw_tableIn (tgt := 392) dL_law_44 (by decide +kernel) (by decide +kernel) (by rfl) (by decide +kernel) ?_
            exact lc_3 hI (by omega) hL q hd (by omega) (by omega) K
          · refine sw_tableIn (tgt := 420) dL_law_44 (by decide +kernel) (by decide +kernel) (by rfl) (by decide +kernel) ?_
            exact lc_4 hI (by omega) hL q hd (by omega) (by omega) K
          · refine sw_tableIn (tgt := 460) dL_law_44 (by decide +kernel) (by decide +kernel) (by rfl) (by decide +kernel) ?_
            exact lc_5 hI (by omega) hL q hd (by omega) (by omega) K
          · refine sw_tableIn (tgt := 500) dL_law_44 (by decide +kernel) (by decide +kernel) (by rfl) (by decide +kernel) ?_
            exact lc_6 hI (by omega) hL q hd (by omega) (by omega) K
          · refine sw_tableIn (tgt := 552) dL_law_44 (by decide +kernel) (by decide +kernel) (by rfl) (by decide +kernel) ?_
            exact lc_7 hI (by omega) hL q hd (by omega) (by omega) K
          · refine sw_tableIn (tgt := 604) dL_law_44 (by decide +kernel) (by decide +kernel) (by rfl) (by decide +kernel) ?_
            exact lc_8 hI (by omega) hL q hd (by omega) (by omega) K
          · refine sw_tableIn (tgt := 644) dL_law_44 (by decide +kernel) (by decide +kernel) (by rfl) (by decide +kernel) ?_
            exact lc_9 hI (by omega) hL q hd (by omega) (by omega) K
          · refine sw_tableIn (tgt := 672) dL_law_44 (by decide +kernel) (by decide +kernel) (by rfl) (by decide +kernel) ?_
            exact lc_10 hI (by omega) hL q hd (by omega) (by omega) K
          · refine sw_tableIn (tgt := 712) dL_law_44 (by decide +kernel) (by decide +kernel) (by rfl) (by decide +kernel) ?_
            exact lc_11 hI (by omega) hL q hd (by omega) (by omega) K
          · refine sw_tableIn (tgt := 764) dL_law_44 (by decide +kernel) (by decide +kernel) (by rfl) (by decide +kernel) ?_
            exact lc_12 hI (by omega) hL q hd (by omega) (by omega) K
          · refine sw_tableIn (tgt := 804) dL_law_44 (by decide +kernel) (by decide +kernel) (by rfl) (by decide +kernel) ?_
            exact lc_13 hI (by omega) hL q hd (by omega) (by omega) K
          · refine sw_tableIn (tgt := 856) dL_law_44 (by decide +kernel) (by decide +kernel) (by rfl) (by decide +kernel) ?_
            exact lc_14 hI (by omega) hL q hd (by omega) (by omega) K
          · refine sw_tableIn (tgt := 908) dL_law_44 (by decide +kernel) (by decide +kernel) (by rfl) (by decide +kernel) ?_
            exact lc_15 hI (by omega) hL q hd (by omega) (by omega) K
          · refine sw_tableIn (tgt := 960) dL_law_44 (by decide +kernel) (by decide +kernel) (by rfl) (by decide +kernel) ?_
            exact lc_16 hI (by omega) hL q hd (by omega) (by omega) K
          · refine sw_tableIn (tgt := 988) dL_law_44 (by decide +kernel) (by decide +kernel) (by rfl) (by decide +kernel) ?_
            exact lc_17 hI (by omega) hL q hd (by omega) (by omega) K
          · refine sw_tableIn (tgt := 1016) dL_law_44 (by decide +kernel) (by decide +kernel) (by rfl) (by decide +kernel) ?_
            exact lc_18 hI (by omega) hL q hd (by omega) (by omega) K
          · refine sw_tableIn (tgt := 1044) dL_law_44 (by decide +kernel) (by decide +kernel) (by rfl) (by decide +kernel) ?_
            exact lc_19 hI (by omega) hL q hd (by omega) (by omega) K
          · refine sw_tableIn (tgt := 1072) dL_law_44 (by decide +kernel) (by decide +kernel) (by rfl) (by decide +kernel) ?_
            exact lc_20 hI (by omega) hL q hd (by omega) (by omega) K
          · refine sw_tableIn (tgt := 1112) dL_law_44 (by decide +kernel) (by decide +kernel) (by rfl) (by decide +kernel) ?_
            exact lc_21 hI (by omega) hL q hd (by omega) (by omega) K
          · refine sw_tableIn (tgt := 1152) dL_law_44 (by decide +kernel) (by decide +kernel) (by rfl) (by decide +kernel) ?_
            exact lc_22 hI (by omega) hL q hd (by omega) (by omega) K
          · refine sw_tableIn (tgt := 1180) dL_law_44 (by decide +kernel) (by decide +kernel) (by rfl) (by decide +kernel) ?_
            exact lc_23 hI (by omega) hL q hd (by omega) (by omega) K
          · refine sw_tableIn (tgt := 1220) dL_law_44 (by decide +kernel) (by decide +kernel) (by rfl) (by decide +kernel) ?_
            exact lc_24 hI (by omega) hL q hd (by omega) (by omega) K
          · refine sw_tableIn (tgt := 1260) dL_law_44 (by decide +kernel) (by decide +kernel) (by rfl) (by decide +kernel) ?_
            exact lc_25 hI (by omega) hL q hd (by omega) (by omega) K
          · refine sw_tableIn (tgt := 1300) dL_law_44 (by decide +kernel) (by decide +kernel) (by rfl) (by decide +kernel) ?_
            exact lc_26 hI (by omega) hL q hd (by omega) (by omega) K
          · refine sw_tableIn (tgt := 1328) dL_law_44 (by decide +kernel) (by decide +kernel) (by rfl) (by decide +kernel) ?_
            exact lc_27 hI (by omega) hL q hd (by omega) (by omega) K
          · refine sw_tableIn (tgt := 1386) dL_law_44 (by decide +kernel) (by decide +kernel) (by rfl) (by decide +kernel) ?_
            exact lc_28 hI (by omega) hL q hd (by omega) (by omega) K
          · refine sw_tableIn (tgt := 1414) dL_law_44 (by decide +kernel) (by decide +kernel) (by rfl) (by decide +kernel) ?_
            exact lc_29 hI (by omega) hL q hd (by omega) (by omega) K
          · refine sw_tableIn (tgt := 1442) dL_law_44 (by decide +kernel) (by decide +kernel) (by rfl) (by decide +kernel) ?_
            exact lc_30 hI (by omega) hL q hd (by omega) (by omega) K
          · refine sw_tableIn (tgt := 1482) dL_law_44 (by decide +kernel) (by decide +kernel) (by rfl) (by decide +kernel) ?_
            exact lc_31 hI (by omega) hL q hd (by omega) (by omega) K
          · refine sw_tableIn (tgt := 1522) dL_law_44 (by decide +kernel) (by decide +kernel) (by rfl) (by decide +kernel) ?_
            exact lc_32 hI (by omega) hL q hd (by omega) (by omega) K
          · refine sw_tableIn (tgt := 1590) dL_law_44 (by decide +kernel) (by decide +kernel) (by rfl) (by decide +kernel) ?_
            exact lc_33 hI (by omega) hL q hd (by omega) (by omega) K
          · refine sw_tableIn (tgt := 1630) dL_law_44 (by decide +kernel) (by decide +kernel) (by rfl) (by decide +kernel) ?_
            exact lc_34 hI (by omega) hL q hd (by omega) (by omega) K
          · refine sw_tableIn (tgt := 1686) dL_law_44 (by decide +kernel) (by decide +kernel) (by rfl) (by decide +kernel) ?_
            exact lc_35 hI (by omega) hL q hd (by omega) (by omega) K
          · refine sw_tableIn (tgt := 1714) dL_law_44 (by decide +kernel) (by decide +kernel) (by rfl) (by decide +kernel) ?_
            exact lc_36 hI (by omega) hL q hd (by omega) (by omega) K
          · refine sw_tableIn (tgt := 1754) dL_law_44 (by decide +kernel) (by decide +kernel) (by rfl) (by decide +kernel) ?_
            exact lc_37 hI (by omega) hL q hd (by omega) (by omega) K
          · refine sw_tableIn (tgt := 1810) dL_law_44 (by decide +kernel) (by decide +kernel) (by rfl) (by decide +kernel) ?_
            exact lc_38 hI (by omega) hL q hd (by omega) (by omega) K
          · refine sw_tableIn (tgt := 1838) dL_law_44 (by decide +kernel) (by decide +kernel) (by rfl) (by decide +kernel) ?_
            exact lc_39 hI (by omega) hL q hd (by omega) (by omega) K
          · refine sw_tableIn (tgt := 1878) dL_law_44 (by decide +kernel) (by decide +kernel) (by rfl) (by decide +kernel) ?_
            exact lc_40 hI (by omega) hL q hd (by omega) (by omega) K
          · refine sw_tableIn (tgt := 1906) dL_law_44 (by decide +kernel) (by decide +kernel) (by rfl) (by decide +kernel) ?_
            exact lc_41 hI (by omega) hL q hd (by omega) (by omega) K
          · refine sw_tableIn (tgt := 1919) dL_law_44 (by decide +kernel) (by decide +kernel) (by rfl) (by decide +kernel) ?_
            exact lc_42 hI (by omega) hL q hd (by omega) (by omega) K
          · refine sw_tableIn (tgt := 1932) dL_law_44 (by decide +kernel) (by decide +kernel) (by rfl) (by decide +kernel) ?_
            exact lc_43 hI (by omega) hL q hd (by omega) (by omega) K
        · refine sw_tableOut (tgt := 1945) dL_law_44 (Or.inr (by rw [nI_toInt (by omega)]; omega)) (by decide +kernel) ?_
          exact (K h n σ (Nat.le_refl _) hI.up).bud (by omega) (by omega)
    · refine sw_iload (pc' := 29) rfl dL_law_27 rfl ?_
      refine sw_aload_n (pc' := 30) rfl dL_law_29 rfl ?_
      refine sw_alen (pc' := 31) rfl dL_law_30 hs (by decide +kernel) (Or.inr ⟨by decide +kernel, _, rfl⟩) ?_
      refine sw_bipush (pc' := 33) (v := 6) rfl dL_law_31 (by decide +kernel) ?_
      refine sw_isub (pc' := 34) rfl dL_law_33 ?_
      refine sw_icmp_gt (pc' := 37) (tgt := 1951) rfl dL_law_34 (by decide +kernel) (fun c34 => ?_) (fun c34 => ?_)
      · refine sw_iconst (pc' := 1952) (v := 1) rfl dL_law_1951 (by decide +kernel) ?_
        refine sw_ret (v := some _) ⟨dL_law_1952, _, rfl, rfl⟩ ?_
        exact hP _ _
      · exact absurd ((sub6 hL (by omega)).mpr (by omega)) c34
theorem icl_k {A : Nat → AH → Option Value → Prop} {h : AH} {n0 : Nat} (k : ∀ h', RC h' s0 → (∀ i, i < 100 → h' i = h i) → A 135 h' none) : ∀ (v : Option Value) (h' : AH) (n' : Nat), n0 ≤ n' → IC h (.inl v) h' n' → A n' h' v := by
  rintro v h' n' - ⟨e, rfl, g1, g2⟩
  cases e
  exact k h' g1 g2
theorem imo_k {A : Nat → AH → Option Value → Prop} {h : AH} {n0 : Nat} (k : ∀ h', RMo h' s0 0 → (∀ i, i < 135 → h' i = h i) → A 158 h' none) : ∀ (v : Option Value) (h' : AH) (n' : Nat), n0 ≤ n' → IM h (.inl v) h' n' → A n' h' v := by
  rintro v h' n' - ⟨e, rfl, g1, g2⟩
  cases e
  exact k h' g1 g2
theorem law_all {h : AH} {L d bc bs : Nat} {xs : Nat → Int32} {Post : ARes → AH → Nat → Prop} (hL : L ≤ 3072) (hs : h 0 = .inl (0, L, .inl xs)) (hT : TXT h) (hK : ∀ k, 1 ≤ k → k ≤ 5 → KdF h k) (hd : 20 ≤ d) (h1 : 195000 ≤ bc) (h2 : 2310000 ≤ bs) (hP : ∀ h n, Post (.inl (some (.int 1))) h n) : SW SR0 ML_law d bc bs 0 [(0, .ref 0)] [] h 100 Post := by
  refine sw_new (ci := 4) (pc' := 3) rfl dL_law_0 (by decide +kernel) w_63 w_64 w_39 (by omega) (Nat.le_trans (Nat.le_of_ble_eq_true rfl) (show 7 ≤ _ by omega)) ?_
  refine sw_nm (fun g1 eg1 => ?_)
  have zg1 := (congrFun eg1 100).trans (up_s (h := h) (i := 100))
  refine sw_dup (pc' := 4) rfl dL_law_3 rfl ?_
  have f4 : FN 4 = 7 := rfl
  have f5 : FN 5 = 2 := rfl
  have f6 : FN 6 = 14 := rfl
  refine sw_I (M' := MX3_init) (d' := d - 1) (bc' := 40) (bs' := 400) (as := []) dL_law_4 w_65 ok_X3_init (m_initClass zg1 (fun k a b => ⟨(hK k a b).1, ((congrFun eg1 k).trans ((up_n (by omega)).trans (rfl))).trans (hK k a b).2⟩) (by omega) (Nat.le_refl _) (Nat.le_refl _)) (by omega) (Nat.le_of_ble_eq_true rfl) (by omega) (by omega) (fun E h' n' _ z => absurd z.1 (fun e => by cases e)) (icl_k (fun p pR pF => ?_))
  have pG : ∀ i, i < 100 → p i = h i := fun i hi => (pF i hi).trans ((congrFun eg1 i).trans ((up_n (by omega)).trans (rfl)))
  refine sw_astore_n (pc' := 8) (lv' := [(1, _), (0, _)]) rfl dL_law_7 (by decide +kernel) rfl ?_
  refine sw_new (ci := 6) (pc' := 11) rfl dL_law_8 (by decide +kernel) w_1105 w_1106 w_44 (by omega) (Nat.le_trans (Nat.le_of_ble_eq_true rfl) (show 14 ≤ _ by omega)) ?_
  refine sw_nm (fun g2 eg2 => ?_)
  have zg2 := (congrFun eg2 135).trans (up_s (h := p) (i := 135))
  refine sw_dup (pc' := 12) rfl dL_law_11 rfl ?_
  refine sw_I (M' := MX5_init) (d' := d - 1) (bc' := 30) (bs' := 300) (as := []) dL_law_12 w_1107 ok_X5_init (q_initModel zg2 (Nat.le_refl _) (Nat.le_refl _)) (by omega) (Nat.le_of_ble_eq_true rfl) (by omega) (by omega) (fun E h' n' _ z => absurd z.1 (fun e => by cases e)) (imo_k (fun q qR qF => ?_))
  have qG : ∀ i, i < 135 → q i = p i := fun i hi => (qF i hi).trans ((congrFun eg2 i).trans ((up_n (by omega)).trans (rfl)))
  refine sw_astore_n (pc' := 16) (lv' := [(2, _), (1, _), (0, _)]) rfl dL_law_15 (by decide +kernel) rfl ?_
  refine sw_new (ci := 5) (pc' := 19) rfl dL_law_16 (by decide +kernel) w_379 w_380 w_45 (by omega) (Nat.le_trans (Nat.le_of_ble_eq_true rfl) (show 2 ≤ _ by omega)) ?_
  refine sw_nm (fun g3 eg3 => ?_)
  have zg3 := (congrFun eg3 158).trans (up_s (h := q) (i := 158))
  refine sw_dup (pc' := 20) rfl dL_law_19 rfl ?_
  refine sw_callIN (M' := MX4_init) (d' := d - 1) (bc' := 0) (bs' := 0) (as := []) dL_law_20 v_343 ok_X4_init.2.2.1 ok_X4_init.1.1 ok_X4_init.1.2.1 ok_X4_init.2.2.2.1 ok_X4_init.2.2.2.2 ok_X4_init.1.2.2.1 ok_X4_init.1.2.2.2.1 ok_X4_init.2.1 (by omega) ok_X4_init.1.2.2.2.2 m_initOut (Nat.le_of_ble_eq_true rfl) (Nat.zero_le _) (Nat.zero_le _) (det_k ?_) (fun E h' n' _ z => det_x z)
  have J : LI L xs g3 159 s0 0 := ⟨pR.frT (fun i hi => ((congrFun eg3 i).trans ((up_n (by omega)).trans (rfl))).trans (qG i hi)), ⟨0, qR.fr (fun i a b => (congrFun eg3 i).trans ((up_n (by omega)).trans (rfl)))⟩, hT.fr (fun i hi => ((congrFun eg3 i).trans ((up_n (by omega)).trans (rfl))).trans ((qG i (by omega)).trans (pG i hi))), cl_s0 0, ⟨0, .null, zg3⟩, ((congrFun eg3 0).trans ((up_n (by omega)).trans (rfl))).trans ((qG 0 (by decide +kernel)).trans ((pG 0 (by decide +kernel)).trans hs)), Nat.le_refl _⟩
  refine sw_astore_n (pc' := 24) (lv' := [(3, _), (2, _), (1, _), (0, _)]) rfl dL_law_23 (by decide +kernel) rfl ?_
  refine sw_iconst (pc' := 25) (v := 0) rfl dL_law_24 (by decide +kernel) ?_
  refine sw_istore (pc' := 27) (lv' := [(4, _), (3, _), (2, _), (1, _), (0, _)]) rfl dL_law_25 (by decide +kernel) rfl ?_
  exact SW.pick [0, 1, 2, 3, 4] rfl ((ll_loop hL hd hP (L / 6) 0 159 0 194560 2304000 _ s0 J (by omega) (by omega) (by omega) (by omega) (by omega)).bud (by omega) (by omega))
end
section
/-! 59.words -/
/-! what the Statement says of the start -/
theorem bl {a b : Cond} {A : Array Value} {s : State} (h : (Cond.and a b).before A s = true) : a.before A s = true := (Bool.and_eq_true_iff.mp (by rw [← Cond.before_and]; exact h)).1
theorem br {a b : Cond} {A : Array Value} {s : State} (h : (Cond.and a b).before A s = true) : b.before A s = true := (Bool.and_eq_true_iff.mp (by rw [← Cond.before_and]; exact h)).2
def nmK : List String := ["ROW", "RISING", "KEPT", "QUEUE", "TABLE"]
def FK : List (String × String × String × List Int32) := [("Overwalks$Kind", "hasPlaces", "Z", [1, 0, 0, 0, 0]), ("Overwalks$Kind", "takesNothings", "Z", [1, 0, 1, 0, 0]), ("Overwalks$Kind", "hasEachOnce", "Z", [0, 1, 1, 0, 0])]
theorem kd_x {A : Array Value} {s : State} (h : narrow_1.before A s = true) : ∀ i, i < nmK.length → (Cond.exactly (.static "Overwalks$Kind" (nmK.getD i "") "LOverwalks$Kind;") "Overwalks$Kind").before A s = true := by
  intro i hi
  rcases (show i = 0 ∨ i = 1 ∨ i = 2 ∨ i = 3 ∨ i = 4 by have : i < 5 := hi; omega) with rfl | rfl | rfl | rfl | rfl
  · exact (br (br (bl (bl (bl (bl (bl (bl (bl (bl h))))))))))
  · exact (bl (bl (bl (br (bl (bl (bl (bl (bl (bl h))))))))))
  · exact (bl (br (br (br (bl (bl (bl (bl (bl (bl h))))))))))
  · exact (br (bl (br (bl (br (bl (bl (bl (bl (bl h))))))))))
  · exact (br (bl (br (br (br (bl (bl (bl (bl (bl h))))))))))
theorem kd_f0 {A : Array Value} {s : State} (h : narrow_1.before A s = true) : ∀ i, i < nmK.length → (Cond.eq (.field (.static "Overwalks$Kind" (nmK.getD i "") "LOverwalks$Kind;") "Overwalks$Kind" "hasPlaces" "Z") (.int (([1, 0, 0, 0, 0] : List Int32).getD i 0))).before A s = true := by
  intro i hi
  rcases (show i = 0 ∨ i = 1 ∨ i = 2 ∨ i = 3 ∨ i = 4 by have : i < 5 := hi; omega) with rfl | rfl | rfl | rfl | rfl
  · exact (br (bl (br (bl (bl (bl (bl (bl (bl (bl h))))))))))
  · exact (bl (br (bl (br (bl (bl (bl (bl (bl (bl h))))))))))
  · exact (bl (bl (bl (bl (br (bl (bl (bl (bl (bl h))))))))))
  · exact (br (br (br (bl (br (bl (bl (bl (bl (bl h))))))))))
  · exact (br (br (br (br (br (bl (bl (bl (bl (bl h))))))))))
theorem kd_f1 {A : Array Value} {s : State} (h : narrow_1.before A s = true) : ∀ i, i < nmK.length → (Cond.eq (.field (.static "Overwalks$Kind" (nmK.getD i "") "LOverwalks$Kind;") "Overwalks$Kind" "takesNothings" "Z") (.int (([1, 0, 1, 0, 0] : List Int32).getD i 0))).before A s = true := by
  intro i hi
  rcases (show i = 0 ∨ i = 1 ∨ i = 2 ∨ i = 3 ∨ i = 4 by have : i < 5 := hi; omega) with rfl | rfl | rfl | rfl | rfl
  · exact (bl (br (br (bl (bl (bl (bl (bl (bl (bl h))))))))))
  · exact (br (br (bl (br (bl (bl (bl (bl (bl (bl h))))))))))
  · exact (br (bl (bl (bl (br (bl (bl (bl (bl (bl h))))))))))
  · exact (bl (bl (bl (br (br (bl (bl (bl (bl (bl h))))))))))
  · exact (bl (bl (bl (bl (bl (br (bl (bl (bl (bl h))))))))))
theorem kd_f2 {A : Array Value} {s : State} (h : narrow_1.before A s = true) : ∀ i, i < nmK.length → (Cond.eq (.field (.static "Overwalks$Kind" (nmK.getD i "") "LOverwalks$Kind;") "Overwalks$Kind" "hasEachOnce" "Z") (.int (([0, 1, 1, 0, 0] : List Int32).getD i 0))).before A s = true := by
  intro i hi
  rcases (show i = 0 ∨ i = 1 ∨ i = 2 ∨ i = 3 ∨ i = 4 by have : i < 5 := hi; omega) with rfl | rfl | rfl | rfl | rfl
  · exact (br (br (br (bl (bl (bl (bl (bl (bl (bl h))))))))))
  · exact (bl (bl (br (br (bl (bl (bl (bl (bl (bl h))))))))))
  · exact (bl (br (bl (bl (br (bl (bl (bl (bl (bl h))))))))))
  · exact (br (bl (bl (br (br (bl (bl (bl (bl (bl h))))))))))
  · exact (br (bl (bl (bl (bl (br (bl (bl (bl (bl h))))))))))
theorem kd_f {A : Array Value} {s : State} (h : narrow_1.before A s = true) : ∀ q ∈ FK, ∀ i, i < nmK.length → (Cond.eq (.field (.static "Overwalks$Kind" (nmK.getD i "") "LOverwalks$Kind;") q.1 q.2.1 q.2.2.1) (.int (q.2.2.2.getD i 0))).before A s = true := by
  intro q hq
  rcases List.mem_cons.mp hq with rfl | hq
  · exact kd_f0 h
  rcases List.mem_cons.mp hq with rfl | hq
  · exact kd_f1 h
  rcases List.mem_singleton.mp hq with rfl
  exact kd_f2 h
theorem kd_d {A : Array Value} {s : State} (h : narrow_1.before A s = true) : ∀ i j, i < nmK.length → j < nmK.length → i ≠ j → (Cond.not (.eq (.static "Overwalks$Kind" (nmK.getD i "") "LOverwalks$Kind;") (.static "Overwalks$Kind" (nmK.getD j "") "LOverwalks$Kind;"))).before A s = true ∨ (Cond.not (.eq (.static "Overwalks$Kind" (nmK.getD j "") "LOverwalks$Kind;") (.static "Overwalks$Kind" (nmK.getD i "") "LOverwalks$Kind;"))).before A s = true := by
  intro i j hi hj hne
  rcases (show i = 0 ∨ i = 1 ∨ i = 2 ∨ i = 3 ∨ i = 4 by have : i < 5 := hi; omega) with rfl | rfl | rfl | rfl | rfl <;> rcases (show j = 0 ∨ j = 1 ∨ j = 2 ∨ j = 3 ∨ j = 4 by have : j < 5 := hj; omega) with rfl | rfl | rfl | rfl | rfl
  · exact absurd rfl hne
  · exact Or.inl (br (bl (br (br (bl (bl (bl (bl (bl (bl h))))))))))
  · exact Or.inl (br (br (bl (bl (br (bl (bl (bl (bl (bl h))))))))))
  · exact Or.inl (bl (br (bl (br (br (bl (bl (bl (bl (bl h))))))))))
  · exact Or.inl (bl (br (bl (bl (bl (br (bl (bl (bl (bl h))))))))))
  · exact Or.inr (br (bl (br (br (bl (bl (bl (bl (bl (bl h))))))))))
  · exact absurd rfl hne
  · exact Or.inl (bl (bl (br (bl (br (bl (bl (bl (bl (bl h))))))))))
  · exact Or.inl (br (br (bl (br (br (bl (bl (bl (bl (bl h))))))))))
  · exact Or.inl (br (br (bl (bl (bl (br (bl (bl (bl (bl h))))))))))
  · exact Or.inr (br (br (bl (bl (br (bl (bl (bl (bl (bl h))))))))))
  · exact Or.inr (bl (bl (br (bl (br (bl (bl (bl (bl (bl h))))))))))
  · exact absurd rfl hne
  · exact Or.inl (bl (bl (br (br (br (bl (bl (bl (bl (bl h))))))))))
  · exact Or.inl (bl (bl (br (bl (bl (br (bl (bl (bl (bl h))))))))))
  · exact Or.inr (bl (br (bl (br (br (bl (bl (bl (bl (bl h))))))))))
  · exact Or.inr (br (br (bl (br (br (bl (bl (bl (bl (bl h))))))))))
  · exact Or.inr (bl (bl (br (br (br (bl (bl (bl (bl (bl h))))))))))
  · exact absurd rfl hne
  · exact Or.inl (br (bl (br (bl (bl (br (bl (bl (bl (bl h))))))))))
  · exact Or.inr (bl (br (bl (bl (bl (br (bl (bl (bl (bl h))))))))))
  · exact Or.inr (br (br (bl (bl (bl (br (bl (bl (bl (bl h))))))))))
  · exact Or.inr (bl (bl (br (bl (bl (br (bl (bl (bl (bl h))))))))))
  · exact Or.inr (br (bl (br (bl (bl (br (bl (bl (bl (bl h))))))))))
  · exact absurd rfl hne
theorem kd_l : ∀ i, i < nmK.length → Cond.laysStatic "Overwalks$Kind" (nmK.getD i "") "LOverwalks$Kind;" ∈ tables_1 := by decide +kernel
def tmD : Term := .static "java/lang/Integer" "DigitTens" "[B"
def tmO : Term := .static "java/lang/Integer" "DigitOnes" "[B"
theorem dg_t0 {A : Array Value} {s : State} (h : narrow_1.before A s = true) : ∀ i, i < 10 → (Cond.eq (.elem tmD (.int (Int32.ofNat (0 + i)))) (.int (Int32.ofNat (48 + 0)))).before A s = true := by
  intro i hi
  rcases (show i = 0 ∨ i = 1 ∨ i = 2 ∨ i = 3 ∨ i = 4 ∨ i = 5 ∨ i = 6 ∨ i = 7 ∨ i = 8 ∨ i = 9 by omega) with rfl | rfl | rfl | rfl | rfl | rfl | rfl | rfl | rfl | rfl
  · exact (br (br (br (bl (br (bl (bl (br (bl (bl h))))))))))
  · exact (bl (bl (bl (br (br (bl (bl (br (bl (bl h))))))))))
  · exact (br (bl (bl (br (br (bl (bl (br (bl (bl h))))))))))
  · exact (bl (br (bl (br (br (bl (bl (br (bl (bl h))))))))))
  · exact (br (br (bl (br (br (bl (bl (br (bl (bl h))))))))))
  · exact (bl (bl (br (br (br (bl (bl (br (bl (bl h))))))))))
  · exact (br (bl (br (br (br (bl (bl (br (bl (bl h))))))))))
  · exact (bl (br (br (br (br (bl (bl (br (bl (bl h))))))))))
  · exact (br (br (br (br (br (bl (bl (br (bl (bl h))))))))))
  · exact (bl (bl (bl (bl (bl (br (bl (br (bl (bl h))))))))))
theorem dg_t1 {A : Array Value} {s : State} (h : narrow_1.before A s = true) : ∀ i, i < 10 → (Cond.eq (.elem tmD (.int (Int32.ofNat (10 + i)))) (.int (Int32.ofNat (48 + 1)))).before A s = true := by
  intro i hi
  rcases (show i = 0 ∨ i = 1 ∨ i = 2 ∨ i = 3 ∨ i = 4 ∨ i = 5 ∨ i = 6 ∨ i = 7 ∨ i = 8 ∨ i = 9 by omega) with rfl | rfl | rfl | rfl | rfl | rfl | rfl | rfl | rfl | rfl
  · exact (br (bl (bl (bl (bl (br (bl (br (bl (bl h))))))))))
  · exact (bl (br (bl (bl (bl (br (bl (br (bl (bl h))))))))))
  · exact (br (br (bl (bl (bl (br (bl (br (bl (bl h))))))))))
  · exact (bl (bl (br (bl (bl (br (bl (br (bl (bl h))))))))))
  · exact (br (bl (br (bl (bl (br (bl (br (bl (bl h))))))))))
  · exact (bl (br (br (bl (bl (br (bl (br (bl (bl h))))))))))
  · exact (br (br (br (bl (bl (br (bl (br (bl (bl h))))))))))
  · exact (bl (bl (bl (br (bl (br (bl (br (bl (bl h))))))))))
  · exact (br (bl (bl (br (bl (br (bl (br (bl (bl h))))))))))
  · exact (bl (br (bl (br (bl (br (bl (br (bl (bl h))))))))))
theorem dg_t2 {A : Array Value} {s : State} (h : narrow_1.before A s = true) : ∀ i, i < 10 → (Cond.eq (.elem tmD (.int (Int32.ofNat (20 + i)))) (.int (Int32.ofNat (48 + 2)))).before A s = true := by
  intro i hi
  rcases (show i = 0 ∨ i = 1 ∨ i = 2 ∨ i = 3 ∨ i = 4 ∨ i = 5 ∨ i = 6 ∨ i = 7 ∨ i = 8 ∨ i = 9 by omega) with rfl | rfl | rfl | rfl | rfl | rfl | rfl | rfl | rfl | rfl
  · exact (br (br (bl (br (bl (br (bl (br (bl (bl h))))))))))
  · exact (bl (bl (br (br (bl (br (bl (br (bl (bl h))))))))))
  · exact (br (bl (br (br (bl (br (bl (br (bl (bl h))))))))))
  · exact (bl (br (br (br (bl (br (bl (br (bl (bl h))))))))))
  · exact (br (br (br (br (bl (br (bl (br (bl (bl h))))))))))
  · exact (bl (bl (bl (bl (br (br (bl (br (bl (bl h))))))))))
  · exact (br (bl (bl (bl (br (br (bl (br (bl (bl h))))))))))
  · exact (bl (br (bl (bl (br (br (bl (br (bl (bl h))))))))))
  · exact (br (br (bl (bl (br (br (bl (br (bl (bl h))))))))))
  · exact (bl (bl (br (bl (br (br (bl (br (bl (bl h))))))))))
theorem dg_t3 {A : Array Value} {s : State} (h : narrow_1.before A s = true) : ∀ i, i < 10 → (Cond.eq (.elem tmD (.int (Int32.ofNat (30 + i)))) (.int (Int32.ofNat (48 + 3)))).before A s = true := by
  intro i hi
  rcases (show i = 0 ∨ i = 1 ∨ i = 2 ∨ i = 3 ∨ i = 4 ∨ i = 5 ∨ i = 6 ∨ i = 7 ∨ i = 8 ∨ i = 9 by omega) with rfl | rfl | rfl | rfl | rfl | rfl | rfl | rfl | rfl | rfl
  · exact (br (bl (br (bl (br (br (bl (br (bl (bl h))))))))))
  · exact (bl (br (br (bl (br (br (bl (br (bl (bl h))))))))))
  · exact (br (br (br (bl (br (br (bl (br (bl (bl h))))))))))
  · exact (bl (bl (bl (br (br (br (bl (br (bl (bl h))))))))))
  · exact (br (bl (bl (br (br (br (bl (br (bl (bl h))))))))))
  · exact (bl (br (bl (br (br (br (bl (br (bl (bl h))))))))))
  · exact (br (br (bl (br (br (br (bl (br (bl (bl h))))))))))
  · exact (bl (bl (br (br (br (br (bl (br (bl (bl h))))))))))
  · exact (br (bl (br (br (br (br (bl (br (bl (bl h))))))))))
  · exact (bl (br (br (br (br (br (bl (br (bl (bl h))))))))))
theorem dg_t4 {A : Array Value} {s : State} (h : narrow_1.before A s = true) : ∀ i, i < 10 → (Cond.eq (.elem tmD (.int (Int32.ofNat (40 + i)))) (.int (Int32.ofNat (48 + 4)))).before A s = true := by
  intro i hi
  rcases (show i = 0 ∨ i = 1 ∨ i = 2 ∨ i = 3 ∨ i = 4 ∨ i = 5 ∨ i = 6 ∨ i = 7 ∨ i = 8 ∨ i = 9 by omega) with rfl | rfl | rfl | rfl | rfl | rfl | rfl | rfl | rfl | rfl
  · exact (br (br (br (br (br (br (bl (br (bl (bl h))))))))))
  · exact (bl (bl (bl (bl (bl (bl (br (br (bl (bl h))))))))))
  · exact (br (bl (bl (bl (bl (bl (br (br (bl (bl h))))))))))
  · exact (bl (br (bl (bl (bl (bl (br (br (bl (bl h))))))))))
  · exact (br (br (bl (bl (bl (bl (br (br (bl (bl h))))))))))
  · exact (bl (bl (br (bl (bl (bl (br (br (bl (bl h))))))))))
  · exact (br (bl (br (bl (bl (bl (br (br (bl (bl h))))))))))
  · exact (bl (br (br (bl (bl (bl (br (br (bl (bl h))))))))))
  · exact (br (br (br (bl (bl (bl (br (br (bl (bl h))))))))))
  · exact (bl (bl (bl (br (bl (bl (br (br (bl (bl h))))))))))
theorem dg_t5 {A : Array Value} {s : State} (h : narrow_1.before A s = true) : ∀ i, i < 10 → (Cond.eq (.elem tmD (.int (Int32.ofNat (50 + i)))) (.int (Int32.ofNat (48 + 5)))).before A s = true := by
  intro i hi
  rcases (show i = 0 ∨ i = 1 ∨ i = 2 ∨ i = 3 ∨ i = 4 ∨ i = 5 ∨ i = 6 ∨ i = 7 ∨ i = 8 ∨ i = 9 by omega) with rfl | rfl | rfl | rfl | rfl | rfl | rfl | rfl | rfl | rfl
  · exact (br (bl (bl (br (bl (bl (br (br (bl (bl h))))))))))
  · exact (bl (br (bl (br (bl (bl (br (br (bl (bl h))))))))))
  · exact (br (br (bl (br (bl (bl (br (br (bl (bl h))))))))))
  · exact (bl (bl (br (br (bl (bl (br (br (bl (bl h))))))))))
  · exact (br (bl (br (br (bl (bl (br (br (bl (bl h))))))))))
  · exact (bl (br (br (br (bl (bl (br (br (bl (bl h))))))))))
  · exact (br (br (br (br (bl (bl (br (br (bl (bl h))))))))))
  · exact (bl (bl (bl (bl (br (bl (br (br (bl (bl h))))))))))
  · exact (br (bl (bl (bl (br (bl (br (br (bl (bl h))))))))))
  · exact (bl (br (bl (bl (br (bl (br (br (bl (bl h))))))))))
theorem dg_t6 {A : Array Value} {s : State} (h : narrow_1.before A s = true) : ∀ i, i < 10 → (Cond.eq (.elem tmD (.int (Int32.ofNat (60 + i)))) (.int (Int32.ofNat (48 + 6)))).before A s = true := by
  intro i hi
  rcases (show i = 0 ∨ i = 1 ∨ i = 2 ∨ i = 3 ∨ i = 4 ∨ i = 5 ∨ i = 6 ∨ i = 7 ∨ i = 8 ∨ i = 9 by omega) with rfl | rfl | rfl | rfl | rfl | rfl | rfl | rfl | rfl | rfl
  · exact (br (br (bl (bl (br (bl (br (br (bl (bl h))))))))))
  · exact (bl (bl (br (bl (br (bl (br (br (bl (bl h))))))))))
  · exact (br (bl (br (bl (br (bl (br (br (bl (bl h))))))))))
  · exact (bl (br (br (bl (br (bl (br (br (bl (bl h))))))))))
  · exact (br (br (br (bl (br (bl (br (br (bl (bl h))))))))))
  · exact (bl (bl (bl (br (br (bl (br (br (bl (bl h))))))))))
  · exact (br (bl (bl (br (br (bl (br (br (bl (bl h))))))))))
  · exact (bl (br (bl (br (br (bl (br (br (bl (bl h))))))))))
  · exact (br (br (bl (br (br (bl (br (br (bl (bl h))))))))))
  · exact (bl (bl (br (br (br (bl (br (br (bl (bl h))))))))))
theorem dg_t7 {A : Array Value} {s : State} (h : narrow_1.before A s = true) : ∀ i, i < 10 → (Cond.eq (.elem tmD (.int (Int32.ofNat (70 + i)))) (.int (Int32.ofNat (48 + 7)))).before A s = true := by
  intro i hi
  rcases (show i = 0 ∨ i = 1 ∨ i = 2 ∨ i = 3 ∨ i = 4 ∨ i = 5 ∨ i = 6 ∨ i = 7 ∨ i = 8 ∨ i = 9 by omega) with rfl | rfl | rfl | rfl | rfl | rfl | rfl | rfl | rfl | rfl
  · exact (br (bl (br (br (br (bl (br (br (bl (bl h))))))))))
  · exact (bl (br (br (br (br (bl (br (br (bl (bl h))))))))))
  · exact (br (br (br (br (br (bl (br (br (bl (bl h))))))))))
  · exact (bl (bl (bl (bl (bl (br (br (br (bl (bl h))))))))))
  · exact (br (bl (bl (bl (bl (br (br (br (bl (bl h))))))))))
  · exact (bl (br (bl (bl (bl (br (br (br (bl (bl h))))))))))
  · exact (br (br (bl (bl (bl (br (br (br (bl (bl h))))))))))
  · exact (bl (bl (br (bl (bl (br (br (br (bl (bl h))))))))))
  · exact (br (bl (br (bl (bl (br (br (br (bl (bl h))))))))))
  · exact (bl (br (br (bl (bl (br (br (br (bl (bl h))))))))))
theorem dg_t8 {A : Array Value} {s : State} (h : narrow_1.before A s = true) : ∀ i, i < 10 → (Cond.eq (.elem tmD (.int (Int32.ofNat (80 + i)))) (.int (Int32.ofNat (48 + 8)))).before A s = true := by
  intro i hi
  rcases (show i = 0 ∨ i = 1 ∨ i = 2 ∨ i = 3 ∨ i = 4 ∨ i = 5 ∨ i = 6 ∨ i = 7 ∨ i = 8 ∨ i = 9 by omega) with rfl | rfl | rfl | rfl | rfl | rfl | rfl | rfl | rfl | rfl
  · exact (br (br (br (bl (bl (br (br (br (bl (bl h))))))))))
  · exact (bl (bl (bl (br (bl (br (br (br (bl (bl h))))))))))
  · exact (br (bl (bl (br (bl (br (br (br (bl (bl h))))))))))
  · exact (bl (br (bl (br (bl (br (br (br (bl (bl h))))))))))
  · exact (br (br (bl (br (bl (br (br (br (bl (bl h))))))))))
  · exact (bl (bl (br (br (bl (br (br (br (bl (bl h))))))))))
  · exact (br (bl (br (br (bl (br (br (br (bl (bl h))))))))))
  · exact (bl (br (br (br (bl (br (br (br (bl (bl h))))))))))
  · exact (br (br (br (br (bl (br (br (br (bl (bl h))))))))))
  · exact (bl (bl (bl (bl (br (br (br (br (bl (bl h))))))))))
theorem dg_t9 {A : Array Value} {s : State} (h : narrow_1.before A s = true) : ∀ i, i < 10 → (Cond.eq (.elem tmD (.int (Int32.ofNat (90 + i)))) (.int (Int32.ofNat (48 + 9)))).before A s = true := by
  intro i hi
  rcases (show i = 0 ∨ i = 1 ∨ i = 2 ∨ i = 3 ∨ i = 4 ∨ i = 5 ∨ i = 6 ∨ i = 7 ∨ i = 8 ∨ i = 9 by omega) with rfl | rfl | rfl | rfl | rfl | rfl | rfl | rfl | rfl | rfl
  · exact (br (bl (bl (bl (br (br (br (br (bl (bl h))))))))))
  · exact (bl (br (bl (bl (br (br (br (br (bl (bl h))))))))))
  · exact (br (br (bl (bl (br (br (br (br (bl (bl h))))))))))
  · exact (bl (bl (br (bl (br (br (br (br (bl (bl h))))))))))
  · exact (br (bl (br (bl (br (br (br (br (bl (bl h))))))))))
  · exact (bl (br (br (bl (br (br (br (br (bl (bl h))))))))))
  · exact (br (br (br (bl (br (br (br (br (bl (bl h))))))))))
  · exact (bl (bl (bl (br (br (br (br (br (bl (bl h))))))))))
  · exact (br (bl (bl (br (br (br (br (br (bl (bl h))))))))))
  · exact (bl (br (bl (br (br (br (br (br (bl (bl h))))))))))
theorem dg_t {A : Array Value} {s : State} (h : narrow_1.before A s = true) : ∀ j, j < 100 → (Cond.eq (.elem tmD (.int (Int32.ofNat j))) (.int (Int32.ofNat (48 + j / 10)))).before A s = true := by
  intro j hj
  have hi : j % 10 < 10 := Nat.mod_lt _ (by decide +kernel)
  have e := Nat.div_add_mod j 10
  rcases (show j / 10 = 0 ∨ j / 10 = 1 ∨ j / 10 = 2 ∨ j / 10 = 3 ∨ j / 10 = 4 ∨ j / 10 = 5 ∨ j / 10 = 6 ∨ j / 10 = 7 ∨ j / 10 = 8 ∨ j / 10 = 9 by omega) with q | q | q | q | q | q | q | q | q | q
  · have k9 := dg_t0 h (j % 10) hi
    rw [show 0 + j % 10 = j by omega] at k9
    rw [q]
    exact k9
  · have k9 := dg_t1 h (j % 10) hi
    rw [show 10 + j % 10 = j by omega] at k9
    rw [q]
    exact k9
  · have k9 := dg_t2 h (j % 10) hi
    rw [show 20 + j % 10 = j by omega] at k9
    rw [q]
    exact k9
  · have k9 := dg_t3 h (j % 10) hi
    rw [show 30 + j % 10 = j by omega] at k9
    rw [q]
    exact k9
  · have k9 := dg_t4 h (j % 10) hi
    rw [show 40 + j % 10 = j by omega] at k9
    rw [q]
    exact k9
  · have k9 := dg_t5 h (j % 10) hi
    rw [show 50 + j % 10 = j by omega] at k9
    rw [q]
    exact k9
  · have k9 := dg_t6 h (j % 10) hi
    rw [show 60 + j % 10 = j by omega] at k9
    rw [q]
    exact k9
  · have k9 := dg_t7 h (j % 10) hi
    rw [show 70 + j % 10 = j by omega] at k9
    rw [q]
    exact k9
  · have k9 := dg_t8 h (j % 10) hi
    rw [show 80 + j % 10 = j by omega] at k9
    rw [q]
    exact k9
  · have k9 := dg_t9 h (j % 10) hi
    rw [show 90 + j % 10 = j by omega] at k9
    rw [q]
    exact k9
theorem dg_tl {A : Array Value} {s : State} (h : narrow_1.before A s = true) : (Cond.eq (.length tmD) (.int (Int32.ofNat 100))).before A s = true := (bl (br (br (bl (br (bl (bl (br (bl (bl h))))))))))
theorem dg_ta {A : Array Value} {s : State} (h : narrow_1.before A s = true) : (Cond.arrayOf tmD .byte).before A s = true := (br (bl (br (bl (br (bl (bl (br (bl (bl h))))))))))
theorem dg_o0 {A : Array Value} {s : State} (h : narrow_1.before A s = true) : ∀ i, i < 10 → (Cond.eq (.elem tmO (.int (Int32.ofNat (0 + i)))) (.int (Int32.ofNat (48 + i)))).before A s = true := by
  intro i hi
  rcases (show i = 0 ∨ i = 1 ∨ i = 2 ∨ i = 3 ∨ i = 4 ∨ i = 5 ∨ i = 6 ∨ i = 7 ∨ i = 8 ∨ i = 9 by omega) with rfl | rfl | rfl | rfl | rfl | rfl | rfl | rfl | rfl | rfl
  · exact (bl (bl (bl (bl (br (br (bl (bl (bl (bl h))))))))))
  · exact (br (bl (bl (bl (br (br (bl (bl (bl (bl h))))))))))
  · exact (bl (br (bl (bl (br (br (bl (bl (bl (bl h))))))))))
  · exact (br (br (bl (bl (br (br (bl (bl (bl (bl h))))))))))
  · exact (bl (bl (br (bl (br (br (bl (bl (bl (bl h))))))))))
  · exact (br (bl (br (bl (br (br (bl (bl (bl (bl h))))))))))
  · exact (bl (br (br (bl (br (br (bl (bl (bl (bl h))))))))))
  · exact (br (br (br (bl (br (br (bl (bl (bl (bl h))))))))))
  · exact (bl (bl (bl (br (br (br (bl (bl (bl (bl h))))))))))
  · exact (br (bl (bl (br (br (br (bl (bl (bl (bl h))))))))))
theorem dg_o1 {A : Array Value} {s : State} (h : narrow_1.before A s = true) : ∀ i, i < 10 → (Cond.eq (.elem tmO (.int (Int32.ofNat (10 + i)))) (.int (Int32.ofNat (48 + i)))).before A s = true := by
  intro i hi
  rcases (show i = 0 ∨ i = 1 ∨ i = 2 ∨ i = 3 ∨ i = 4 ∨ i = 5 ∨ i = 6 ∨ i = 7 ∨ i = 8 ∨ i = 9 by omega) with rfl | rfl | rfl | rfl | rfl | rfl | rfl | rfl | rfl | rfl
  · exact (bl (br (bl (br (br (br (bl (bl (bl (bl h))))))))))
  · exact (br (br (bl (br (br (br (bl (bl (bl (bl h))))))))))
  · exact (bl (bl (br (br (br (br (bl (bl (bl (bl h))))))))))
  · exact (br (bl (br (br (br (br (bl (bl (bl (bl h))))))))))
  · exact (bl (br (br (br (br (br (bl (bl (bl (bl h))))))))))
  · exact (br (br (br (br (br (br (bl (bl (bl (bl h))))))))))
  · exact (bl (bl (bl (bl (bl (bl (br (bl (bl (bl h))))))))))
  · exact (br (bl (bl (bl (bl (bl (br (bl (bl (bl h))))))))))
  · exact (bl (br (bl (bl (bl (bl (br (bl (bl (bl h))))))))))
  · exact (br (br (bl (bl (bl (bl (br (bl (bl (bl h))))))))))
theorem dg_o2 {A : Array Value} {s : State} (h : narrow_1.before A s = true) : ∀ i, i < 10 → (Cond.eq (.elem tmO (.int (Int32.ofNat (20 + i)))) (.int (Int32.ofNat (48 + i)))).before A s = true := by
  intro i hi
  rcases (show i = 0 ∨ i = 1 ∨ i = 2 ∨ i = 3 ∨ i = 4 ∨ i = 5 ∨ i = 6 ∨ i = 7 ∨ i = 8 ∨ i = 9 by omega) with rfl | rfl | rfl | rfl | rfl | rfl | rfl | rfl | rfl | rfl
  · exact (bl (bl (br (bl (bl (bl (br (bl (bl (bl h))))))))))
  · exact (br (bl (br (bl (bl (bl (br (bl (bl (bl h))))))))))
  · exact (bl (br (br (bl (bl (bl (br (bl (bl (bl h))))))))))
  · exact (br (br (br (bl (bl (bl (br (bl (bl (bl h))))))))))
  · exact (bl (bl (bl (br (bl (bl (br (bl (bl (bl h))))))))))
  · exact (br (bl (bl (br (bl (bl (br (bl (bl (bl h))))))))))
  · exact (bl (br (bl (br (bl (bl (br (bl (bl (bl h))))))))))
  · exact (br (br (bl (br (bl (bl (br (bl (bl (bl h))))))))))
  · exact (bl (bl (br (br (bl (bl (br (bl (bl (bl h))))))))))
  · exact (br (bl (br (br (bl (bl (br (bl (bl (bl h))))))))))
theorem dg_o3 {A : Array Value} {s : State} (h : narrow_1.before A s = true) : ∀ i, i < 10 → (Cond.eq (.elem tmO (.int (Int32.ofNat (30 + i)))) (.int (Int32.ofNat (48 + i)))).before A s = true := by
  intro i hi
  rcases (show i = 0 ∨ i = 1 ∨ i = 2 ∨ i = 3 ∨ i = 4 ∨ i = 5 ∨ i = 6 ∨ i = 7 ∨ i = 8 ∨ i = 9 by omega) with rfl | rfl | rfl | rfl | rfl | rfl | rfl | rfl | rfl | rfl
  · exact (bl (br (br (br (bl (bl (br (bl (bl (bl h))))))))))
  · exact (br (br (br (br (bl (bl (br (bl (bl (bl h))))))))))
  · exact (bl (bl (bl (bl (br (bl (br (bl (bl (bl h))))))))))
  · exact (br (bl (bl (bl (br (bl (br (bl (bl (bl h))))))))))
  · exact (bl (br (bl (bl (br (bl (br (bl (bl (bl h))))))))))
  · exact (br (br (bl (bl (br (bl (br (bl (bl (bl h))))))))))
  · exact (bl (bl (br (bl (br (bl (br (bl (bl (bl h))))))))))
  · exact (br (bl (br (bl (br (bl (br (bl (bl (bl h))))))))))
  · exact (bl (br (br (bl (br (bl (br (bl (bl (bl h))))))))))
  · exact (br (br (br (bl (br (bl (br (bl (bl (bl h))))))))))
theorem dg_o4 {A : Array Value} {s : State} (h : narrow_1.before A s = true) : ∀ i, i < 10 → (Cond.eq (.elem tmO (.int (Int32.ofNat (40 + i)))) (.int (Int32.ofNat (48 + i)))).before A s = true := by
  intro i hi
  rcases (show i = 0 ∨ i = 1 ∨ i = 2 ∨ i = 3 ∨ i = 4 ∨ i = 5 ∨ i = 6 ∨ i = 7 ∨ i = 8 ∨ i = 9 by omega) with rfl | rfl | rfl | rfl | rfl | rfl | rfl | rfl | rfl | rfl
  · exact (bl (bl (bl (br (br (bl (br (bl (bl (bl h))))))))))
  · exact (br (bl (bl (br (br (bl (br (bl (bl (bl h))))))))))
  · exact (bl (br (bl (br (br (bl (br (bl (bl (bl h))))))))))
  · exact (br (br (bl (br (br (bl (br (bl (bl (bl h))))))))))
  · exact (bl (bl (br (br (br (bl (br (bl (bl (bl h))))))))))
  · exact (br (bl (br (br (br (bl (br (bl (bl (bl h))))))))))
  · exact (bl (br (br (br (br (bl (br (bl (bl (bl h))))))))))
  · exact (br (br (br (br (br (bl (br (bl (bl (bl h))))))))))
  · exact (bl (bl (bl (bl (bl (br (br (bl (bl (bl h))))))))))
  · exact (br (bl (bl (bl (bl (br (br (bl (bl (bl h))))))))))
theorem dg_o5 {A : Array Value} {s : State} (h : narrow_1.before A s = true) : ∀ i, i < 10 → (Cond.eq (.elem tmO (.int (Int32.ofNat (50 + i)))) (.int (Int32.ofNat (48 + i)))).before A s = true := by
  intro i hi
  rcases (show i = 0 ∨ i = 1 ∨ i = 2 ∨ i = 3 ∨ i = 4 ∨ i = 5 ∨ i = 6 ∨ i = 7 ∨ i = 8 ∨ i = 9 by omega) with rfl | rfl | rfl | rfl | rfl | rfl | rfl | rfl | rfl | rfl
  · exact (bl (br (bl (bl (bl (br (br (bl (bl (bl h))))))))))
  · exact (br (br (bl (bl (bl (br (br (bl (bl (bl h))))))))))
  · exact (bl (bl (br (bl (bl (br (br (bl (bl (bl h))))))))))
  · exact (br (bl (br (bl (bl (br (br (bl (bl (bl h))))))))))
  · exact (bl (br (br (bl (bl (br (br (bl (bl (bl h))))))))))
  · exact (br (br (br (bl (bl (br (br (bl (bl (bl h))))))))))
  · exact (bl (bl (bl (br (bl (br (br (bl (bl (bl h))))))))))
  · exact (br (bl (bl (br (bl (br (br (bl (bl (bl h))))))))))
  · exact (bl (br (bl (br (bl (br (br (bl (bl (bl h))))))))))
  · exact (br (br (bl (br (bl (br (br (bl (bl (bl h))))))))))
theorem dg_o6 {A : Array Value} {s : State} (h : narrow_1.before A s = true) : ∀ i, i < 10 → (Cond.eq (.elem tmO (.int (Int32.ofNat (60 + i)))) (.int (Int32.ofNat (48 + i)))).before A s = true := by
  intro i hi
  rcases (show i = 0 ∨ i = 1 ∨ i = 2 ∨ i = 3 ∨ i = 4 ∨ i = 5 ∨ i = 6 ∨ i = 7 ∨ i = 8 ∨ i = 9 by omega) with rfl | rfl | rfl | rfl | rfl | rfl | rfl | rfl | rfl | rfl
  · exact (bl (bl (br (br (bl (br (br (bl (bl (bl h))))))))))
  · exact (br (bl (br (br (bl (br (br (bl (bl (bl h))))))))))
  · exact (bl (br (br (br (bl (br (br (bl (bl (bl h))))))))))
  · exact (br (br (br (br (bl (br (br (bl (bl (bl h))))))))))
  · exact (bl (bl (bl (bl (br (br (br (bl (bl (bl h))))))))))
  · exact (br (bl (bl (bl (br (br (br (bl (bl (bl h))))))))))
  · exact (bl (br (bl (bl (br (br (br (bl (bl (bl h))))))))))
  · exact (br (br (bl (bl (br (br (br (bl (bl (bl h))))))))))
  · exact (bl (bl (br (bl (br (br (br (bl (bl (bl h))))))))))
  · exact (br (bl (br (bl (br (br (br (bl (bl (bl h))))))))))
theorem dg_o7 {A : Array Value} {s : State} (h : narrow_1.before A s = true) : ∀ i, i < 10 → (Cond.eq (.elem tmO (.int (Int32.ofNat (70 + i)))) (.int (Int32.ofNat (48 + i)))).before A s = true := by
  intro i hi
  rcases (show i = 0 ∨ i = 1 ∨ i = 2 ∨ i = 3 ∨ i = 4 ∨ i = 5 ∨ i = 6 ∨ i = 7 ∨ i = 8 ∨ i = 9 by omega) with rfl | rfl | rfl | rfl | rfl | rfl | rfl | rfl | rfl | rfl
  · exact (bl (br (br (bl (br (br (br (bl (bl (bl h))))))))))
  · exact (br (br (br (bl (br (br (br (bl (bl (bl h))))))))))
  · exact (bl (bl (bl (br (br (br (br (bl (bl (bl h))))))))))
  · exact (br (bl (bl (br (br (br (br (bl (bl (bl h))))))))))
  · exact (bl (br (bl (br (br (br (br (bl (bl (bl h))))))))))
  · exact (br (br (bl (br (br (br (br (bl (bl (bl h))))))))))
  · exact (bl (bl (br (br (br (br (br (bl (bl (bl h))))))))))
  · exact (br (bl (br (br (br (br (br (bl (bl (bl h))))))))))
  · exact (bl (br (br (br (br (br (br (bl (bl (bl h))))))))))
  · exact (br (br (br (br (br (br (br (bl (bl (bl h))))))))))
theorem dg_o8 {A : Array Value} {s : State} (h : narrow_1.before A s = true) : ∀ i, i < 10 → (Cond.eq (.elem tmO (.int (Int32.ofNat (80 + i)))) (.int (Int32.ofNat (48 + i)))).before A s = true := by
  intro i hi
  rcases (show i = 0 ∨ i = 1 ∨ i = 2 ∨ i = 3 ∨ i = 4 ∨ i = 5 ∨ i = 6 ∨ i = 7 ∨ i = 8 ∨ i = 9 by omega) with rfl | rfl | rfl | rfl | rfl | rfl | rfl | rfl | rfl | rfl
  · exact (bl (bl (bl (bl (bl (bl (bl (br (bl (bl h))))))))))
  · exact (br (bl (bl (bl (bl (bl (bl (br (bl (bl h))))))))))
  · exact (bl (br (bl (bl (bl (bl (bl (br (bl (bl h))))))))))
  · exact (br (br (bl (bl (bl (bl (bl (br (bl (bl h))))))))))
  · exact (bl (bl (br (bl (bl (bl (bl (br (bl (bl h))))))))))
  · exact (br (bl (br (bl (bl (bl (bl (br (bl (bl h))))))))))
  · exact (bl (br (br (bl (bl (bl (bl (br (bl (bl h))))))))))
  · exact (br (br (br (bl (bl (bl (bl (br (bl (bl h))))))))))
  · exact (bl (bl (bl (br (bl (bl (bl (br (bl (bl h))))))))))
  · exact (br (bl (bl (br (bl (bl (bl (br (bl (bl h))))))))))
theorem dg_o9 {A : Array Value} {s : State} (h : narrow_1.before A s = true) : ∀ i, i < 10 → (Cond.eq (.elem tmO (.int (Int32.ofNat (90 + i)))) (.int (Int32.ofNat (48 + i)))).before A s = true := by
  intro i hi
  rcases (show i = 0 ∨ i = 1 ∨ i = 2 ∨ i = 3 ∨ i = 4 ∨ i = 5 ∨ i = 6 ∨ i = 7 ∨ i = 8 ∨ i = 9 by omega) with rfl | rfl | rfl | rfl | rfl | rfl | rfl | rfl | rfl | rfl
  · exact (bl (br (bl (br (bl (bl (bl (br (bl (bl h))))))))))
  · exact (br (br (bl (br (bl (bl (bl (br (bl (bl h))))))))))
  · exact (bl (bl (br (br (bl (bl (bl (br (bl (bl h))))))))))
  · exact (br (bl (br (br (bl (bl (bl (br (bl (bl h))))))))))
  · exact (bl (br (br (br (bl (bl (bl (br (bl (bl h))))))))))
  · exact (br (br (br (br (bl (bl (bl (br (bl (bl h))))))))))
  · exact (bl (bl (bl (bl (br (bl (bl (br (bl (bl h))))))))))
  · exact (br (bl (bl (bl (br (bl (bl (br (bl (bl h))))))))))
  · exact (bl (br (bl (bl (br (bl (bl (br (bl (bl h))))))))))
  · exact (br (br (bl (bl (br (bl (bl (br (bl (bl h))))))))))
theorem dg_o {A : Array Value} {s : State} (h : narrow_1.before A s = true) : ∀ j, j < 100 → (Cond.eq (.elem tmO (.int (Int32.ofNat j))) (.int (Int32.ofNat (48 + j % 10)))).before A s = true := by
  intro j hj
  have hi : j % 10 < 10 := Nat.mod_lt _ (by decide +kernel)
  have e := Nat.div_add_mod j 10
  rcases (show j / 10 = 0 ∨ j / 10 = 1 ∨ j / 10 = 2 ∨ j / 10 = 3 ∨ j / 10 = 4 ∨ j / 10 = 5 ∨ j / 10 = 6 ∨ j / 10 = 7 ∨ j / 10 = 8 ∨ j / 10 = 9 by omega) with q | q | q | q | q | q | q | q | q | q
  · have k9 := dg_o0 h (j % 10) hi
    rw [show 0 + j % 10 = j by omega] at k9
    exact k9
  · have k9 := dg_o1 h (j % 10) hi
    rw [show 10 + j % 10 = j by omega] at k9
    exact k9
  · have k9 := dg_o2 h (j % 10) hi
    rw [show 20 + j % 10 = j by omega] at k9
    exact k9
  · have k9 := dg_o3 h (j % 10) hi
    rw [show 30 + j % 10 = j by omega] at k9
    exact k9
  · have k9 := dg_o4 h (j % 10) hi
    rw [show 40 + j % 10 = j by omega] at k9
    exact k9
  · have k9 := dg_o5 h (j % 10) hi
    rw [show 50 + j % 10 = j by omega] at k9
    exact k9
  · have k9 := dg_o6 h (j % 10) hi
    rw [show 60 + j % 10 = j by omega] at k9
    exact k9
  · have k9 := dg_o7 h (j % 10) hi
    rw [show 70 + j % 10 = j by omega] at k9
    exact k9
  · have k9 := dg_o8 h (j % 10) hi
    rw [show 80 + j % 10 = j by omega] at k9
    exact k9
  · have k9 := dg_o9 h (j % 10) hi
    rw [show 90 + j % 10 = j by omega] at k9
    exact k9
theorem dg_ol {A : Array Value} {s : State} (h : narrow_1.before A s = true) : (Cond.eq (.length tmO) (.int (Int32.ofNat 100))).before A s = true := (br (br (br (br (bl (br (bl (bl (bl (bl h))))))))))
theorem dg_oa {A : Array Value} {s : State} (h : narrow_1.before A s = true) : (Cond.arrayOf tmO .byte).before A s = true := (bl (br (br (br (bl (br (bl (bl (bl (bl h))))))))))
theorem cs_e {A : Array Value} {s : State} (h : narrow_1.before A s = true) : (Cond.eq (.static "java/lang/String" "COMPACT_STRINGS" "Z") (.int 1)).before A s = true := (bl (bl (bl (br (bl (br (bl (bl (bl (bl h))))))))))
theorem th_u {A : Array Value} {s : State} (h : narrow_1.before A s = true) : (Cond.isRef (.static "java/lang/Throwable" "UNASSIGNED_STACK" "[Ljava/lang/StackTraceElement;")).before A s = true := (bl (br (br (bl (bl (br (bl (bl (bl (bl h))))))))))
theorem th_s {A : Array Value} {s : State} (h : narrow_1.before A s = true) : (Cond.isRef (.static "java/lang/Throwable" "SUPPRESSED_SENTINEL" "Ljava/util/List;")).before A s = true := (br (br (br (bl (bl (br (bl (bl (bl (bl h))))))))))
theorem xp_e {A : Array Value} {s : State} (h : narrow_1.before A s = true) : ∀ q ∈ XP, (Cond.not (.castable q.1 q.2)).before A s = true := by
  intro q hq
  unfold XP at hq
  simp only [List.mem_cons, List.not_mem_nil, or_false] at hq
  rcases hq with rfl | rfl | rfl | rfl | rfl | rfl
  · exact (bl (bl (br (br (bl (bl (bl (bl (br (bl h))))))))))
  · exact (bl (br (br (bl (br (bl (bl (bl (br (bl h))))))))))
  · exact (bl (br (bl (bl (bl (bl (bl (bl (br (bl h))))))))))
  · exact (br (br (br (bl (br (bl (bl (bl (br (bl h))))))))))
  · exact (br (br (bl (bl (bl (bl (bl (bl (br (bl h))))))))))
  · exact (br (bl (br (br (bl (bl (bl (bl (br (bl h))))))))))
theorem sx_0 {A : Array Value} {s : State} (h : narrow_1.before A s = true) : (Cond.exactly (.string "Overwalks" 304) "java/lang/String").before A s = true := (br (br (bl (bl (bl (bl (br (bl (br (bl h))))))))))
theorem sx_1 {A : Array Value} {s : State} (h : narrow_1.before A s = true) : (Cond.exactly (.string "Overwalks" 350) "java/lang/String").before A s = true := (br (bl (bl (br (br (bl (br (bl (br (bl h))))))))))
theorem sx_2 {A : Array Value} {s : State} (h : narrow_1.before A s = true) : (Cond.exactly (.string "Overwalks" 281) "java/lang/String").before A s = true := (bl (br (bl (br (bl (br (br (bl (br (bl h))))))))))
theorem sx_3 {A : Array Value} {s : State} (h : narrow_1.before A s = true) : (Cond.exactly (.string "Overwalks" 337) "java/lang/String").before A s = true := (bl (br (bl (bl (bl (bl (bl (br (br (bl h))))))))))
theorem sx_4 {A : Array Value} {s : State} (h : narrow_1.before A s = true) : (Cond.exactly (.string "Overwalks" 361) "java/lang/String").before A s = true := (bl (br (br (bl (br (bl (bl (br (br (bl h))))))))))
theorem sx_5 {A : Array Value} {s : State} (h : narrow_1.before A s = true) : (Cond.exactly (.string "Overwalks" 367) "java/lang/String").before A s = true := (bl (br (bl (br (bl (br (bl (br (br (bl h))))))))))
theorem sx_6 {A : Array Value} {s : State} (h : narrow_1.before A s = true) : (Cond.exactly (.string "Overwalks" 363) "java/lang/String").before A s = true := (br (br (br (br (bl (bl (br (br (br (bl h))))))))))
theorem sx_7 {A : Array Value} {s : State} (h : narrow_1.before A s = true) : (Cond.exactly (.string "Overwalks" 359) "java/lang/String").before A s = true := (bl (br (br (bl (bl (br (br (br (br (bl h))))))))))
theorem sx_8 {A : Array Value} {s : State} (h : narrow_1.before A s = true) : (Cond.exactly (.string "Overwalks" 346) "java/lang/String").before A s = true := (bl (bl (br (br (br (br (br (br (br (bl h))))))))))
theorem sx_9 {A : Array Value} {s : State} (h : narrow_1.before A s = true) : (Cond.exactly (.string "Overwalks" 357) "java/lang/String").before A s = true := (br (bl (bl (br (br (bl (bl (bl (bl (br h))))))))))
theorem sx_10 {A : Array Value} {s : State} (h : narrow_1.before A s = true) : (Cond.exactly (.string "Overwalks" 152) "java/lang/String").before A s = true := (br (br (bl (bl (br (br (bl (bl (bl (br h))))))))))
theorem sx_11 {A : Array Value} {s : State} (h : narrow_1.before A s = true) : (Cond.exactly (.string "Overwalks" 365) "java/lang/String").before A s = true := (bl (bl (br (bl (br (bl (br (bl (bl (br h))))))))))
theorem sx_12 {A : Array Value} {s : State} (h : narrow_1.before A s = true) : (Cond.exactly (.string "Overwalks" 175) "java/lang/String").before A s = true := (bl (br (br (bl (br (br (br (bl (bl (br h))))))))))
theorem sx_13 {A : Array Value} {s : State} (h : narrow_1.before A s = true) : (Cond.exactly (.string "Overwalks" 177) "java/lang/String").before A s = true := (br (br (br (bl (br (bl (bl (br (bl (br h))))))))))
theorem sx_14 {A : Array Value} {s : State} (h : narrow_1.before A s = true) : (Cond.exactly (.string "Overwalks" 354) "java/lang/String").before A s = true := (bl (bl (br (bl (bl (bl (br (br (bl (br h))))))))))
theorem sx_15 {A : Array Value} {s : State} (h : narrow_1.before A s = true) : (Cond.exactly (.string "Overwalks" 217) "java/lang/String").before A s = true := (bl (bl (br (br (bl (br (br (br (bl (br h))))))))))
theorem sx_16 {A : Array Value} {s : State} (h : narrow_1.before A s = true) : (Cond.exactly (.string "java/util/Arrays" 337) "java/lang/String").before A s = true := (bl (bl (bl (bl (bl (bl (bl (bl (br (br h))))))))))
theorem sx_17 {A : Array Value} {s : State} (h : narrow_1.before A s = true) : (Cond.exactly (.string "Overwalks" 348) "java/lang/String").before A s = true := (br (br (br (bl (br (bl (bl (bl (br (br h))))))))))
theorem sx_18 {A : Array Value} {s : State} (h : narrow_1.before A s = true) : (Cond.exactly (.string "Overwalks" 240) "java/lang/String").before A s = true := (bl (bl (bl (br (br (br (bl (bl (br (br h))))))))))
theorem sx_19 {A : Array Value} {s : State} (h : narrow_1.before A s = true) : (Cond.exactly (.string "OverwalksModel" 154) "java/lang/String").before A s = true := (br (bl (br (bl (bl (br (br (bl (br (br h))))))))))
theorem sx_20 {A : Array Value} {s : State} (h : narrow_1.before A s = true) : (Cond.exactly (.string "OverwalksModel" 57) "java/lang/String").before A s = true := (bl (bl (br (br (br (br (br (bl (br (br h))))))))))
theorem sx_21 {A : Array Value} {s : State} (h : narrow_1.before A s = true) : (Cond.exactly (.string "OverwalksModel" 167) "java/lang/String").before A s = true := (br (bl (br (bl (br (bl (bl (br (br (br h))))))))))
theorem sx_22 {A : Array Value} {s : State} (h : narrow_1.before A s = true) : (Cond.exactly (.string "OverwalksModel" 149) "java/lang/String").before A s = true := (br (br (br (br (bl (br (bl (br (br (br h))))))))))
theorem sx_23 {A : Array Value} {s : State} (h : narrow_1.before A s = true) : (Cond.exactly (.string "OverwalksModel" 197) "java/lang/String").before A s = true := (bl (br (bl (br (bl (bl (br (br (br (br h))))))))))
def ALS : List (String × Nat × String × Nat) → Prop
  | [] => True
  | (a, b, c, _) :: l => Cond.stringRef a b c ∈ tables_1 ∧ ALS l
theorem ALS.use : ∀ {l : List (String × Nat × String × Nat)}, ALS l → ∀ q ∈ l, Cond.stringRef q.1 q.2.1 q.2.2.1 ∈ tables_1
  | [], _, w, hw => by cases hw
  | (a, b, c, d) :: l, h, w, hw => by
    rcases List.mem_cons.mp hw with rfl | hw
    · exact h.1
    · exact ALS.use h.2 w hw
theorem sr_r : ∀ q ∈ SR0, Cond.stringRef q.1 q.2.1 q.2.2.1 ∈ tables_1 := ALS.use (l := SR0) ⟨amm_1_48.1, amm_1_90.2.2.1, amm_1_96.2.2.2.1, amm_1_126.2.2.1, amm_1_132.1, amm_1_144.2.1, amm_1_186.2.2.2.1, amm_1_228.2.2.2.2.2.1, amm_2_24.2.2.2.1, amm_2_30.2.1, amm_2_60.2.2.2.2.2.1, amm_2_102.2.2.2.1, amm_2_108.2.2.2.2.2.1, amm_2_114.1, amm_2_120.2.2.2.2.2.1, amm_2_156.2.2.2.1, amm_3_126.2.2.2.1, amm_3_204.2.1, amm_4.2.1, amm_5_102.2.1, amm_5_108.1, amm_5_114.2.2.2.2.2.1, amm_5_120.2.2.2.1, amm_5_156.2.2.2.2.2.1, trivial⟩
theorem tx_48c {A : Array Value} {s : State} (h : narrow_1.before A s = true) : (Cond.eq (.field (.string "OverwalksModel" 154) "java/lang/String" "coder" "B") (.int 0)).before A s = true := (bl (br (br (bl (bl (br (br (bl (br (br h))))))))))
theorem tx_48a {A : Array Value} {s : State} (h : narrow_1.before A s = true) : (Cond.arrayOf (.field (.string "OverwalksModel" 154) "java/lang/String" "value" "[B") .byte).before A s = true := (br (br (br (bl (bl (br (br (bl (br (br h))))))))))
theorem tx_48l {A : Array Value} {s : State} (h : narrow_1.before A s = true) : (Cond.eq (.length (.field (.string "OverwalksModel" 154) "java/lang/String" "value" "[B")) (.int (Int32.ofNat 0))).before A s = true := (bl (bl (bl (br (bl (br (br (bl (br (br h))))))))))
theorem tx_48e {A : Array Value} {s : State} (h : narrow_1.before A s = true) : ∀ j, j < 0 → (Cond.eq (.elem (.field (.string "OverwalksModel" 154) "java/lang/String" "value" "[B") (.int (Int32.ofNat j))) (.int 0)).before A s = true := by
  intro j hj
  exact absurd hj (Nat.not_lt_zero _)
theorem tx_50c {A : Array Value} {s : State} (h : narrow_1.before A s = true) : (Cond.eq (.field (.string "OverwalksModel" 167) "java/lang/String" "coder" "B") (.int 0)).before A s = true := (bl (br (br (bl (br (bl (bl (br (br (br h))))))))))
theorem tx_50a {A : Array Value} {s : State} (h : narrow_1.before A s = true) : (Cond.arrayOf (.field (.string "OverwalksModel" 167) "java/lang/String" "value" "[B") .byte).before A s = true := (br (br (br (bl (br (bl (bl (br (br (br h))))))))))
theorem tx_50l {A : Array Value} {s : State} (h : narrow_1.before A s = true) : (Cond.eq (.length (.field (.string "OverwalksModel" 167) "java/lang/String" "value" "[B")) (.int (Int32.ofNat 1))).before A s = true := (bl (bl (bl (br (br (bl (bl (br (br (br h))))))))))
theorem tx_50e {A : Array Value} {s : State} (h : narrow_1.before A s = true) : ∀ j, j < 1 → (Cond.eq (.elem (.field (.string "OverwalksModel" 167) "java/lang/String" "value" "[B") (.int (Int32.ofNat j))) (.int 32)).before A s = true := by
  intro j hj
  rcases (show j = 0 by omega) with rfl
  exact (br (bl (bl (br (br (bl (bl (br (br (br h))))))))))
theorem tx_52c {A : Array Value} {s : State} (h : narrow_1.before A s = true) : (Cond.eq (.field (.string "OverwalksModel" 149) "java/lang/String" "coder" "B") (.int 0)).before A s = true := (bl (bl (bl (bl (br (br (bl (br (br (br h))))))))))
theorem tx_52a {A : Array Value} {s : State} (h : narrow_1.before A s = true) : (Cond.arrayOf (.field (.string "OverwalksModel" 149) "java/lang/String" "value" "[B") .byte).before A s = true := (br (bl (bl (bl (br (br (bl (br (br (br h))))))))))
theorem tx_52l {A : Array Value} {s : State} (h : narrow_1.before A s = true) : (Cond.eq (.length (.field (.string "OverwalksModel" 149) "java/lang/String" "value" "[B")) (.int (Int32.ofNat 1))).before A s = true := (bl (br (bl (bl (br (br (bl (br (br (br h))))))))))
theorem tx_52e {A : Array Value} {s : State} (h : narrow_1.before A s = true) : ∀ j, j < 1 → (Cond.eq (.elem (.field (.string "OverwalksModel" 149) "java/lang/String" "value" "[B") (.int (Int32.ofNat j))) (.int 45)).before A s = true := by
  intro j hj
  rcases (show j = 0 by omega) with rfl
  exact (br (br (bl (bl (br (br (bl (br (br (br h))))))))))
theorem tx_54c {A : Array Value} {s : State} (h : narrow_1.before A s = true) : (Cond.eq (.field (.string "OverwalksModel" 197) "java/lang/String" "coder" "B") (.int 0)).before A s = true := (br (br (bl (br (bl (bl (br (br (br (br h))))))))))
theorem tx_54a {A : Array Value} {s : State} (h : narrow_1.before A s = true) : (Cond.arrayOf (.field (.string "OverwalksModel" 197) "java/lang/String" "value" "[B") .byte).before A s = true := (bl (bl (br (br (bl (bl (br (br (br (br h))))))))))
theorem tx_54l {A : Array Value} {s : State} (h : narrow_1.before A s = true) : (Cond.eq (.length (.field (.string "OverwalksModel" 197) "java/lang/String" "value" "[B")) (.int (Int32.ofNat 1))).before A s = true := (br (bl (br (br (bl (bl (br (br (br (br h))))))))))
theorem tx_54e {A : Array Value} {s : State} (h : narrow_1.before A s = true) : ∀ j, j < 1 → (Cond.eq (.elem (.field (.string "OverwalksModel" 197) "java/lang/String" "value" "[B") (.int (Int32.ofNat j))) (.int 47)).before A s = true := by
  intro j hj
  rcases (show j = 0 by omega) with rfl
  exact (bl (br (br (br (bl (bl (br (br (br (br h))))))))))
theorem tx_40c {A : Array Value} {s : State} (h : narrow_1.before A s = true) : (Cond.eq (.field (.string "OverwalksModel" 57) "java/lang/String" "coder" "B") (.int 0)).before A s = true := (br (bl (br (br (br (br (br (bl (br (br h))))))))))
theorem tx_40a {A : Array Value} {s : State} (h : narrow_1.before A s = true) : (Cond.arrayOf (.field (.string "OverwalksModel" 57) "java/lang/String" "value" "[B") .byte).before A s = true := (bl (br (br (br (br (br (br (bl (br (br h))))))))))
theorem tx_40l {A : Array Value} {s : State} (h : narrow_1.before A s = true) : (Cond.eq (.length (.field (.string "OverwalksModel" 57) "java/lang/String" "value" "[B")) (.int (Int32.ofNat 1))).before A s = true := (br (br (br (br (br (br (br (bl (br (br h))))))))))
theorem tx_40e {A : Array Value} {s : State} (h : narrow_1.before A s = true) : ∀ j, j < 1 → (Cond.eq (.elem (.field (.string "OverwalksModel" 57) "java/lang/String" "value" "[B") (.int (Int32.ofNat j))) (.int 33)).before A s = true := by
  intro j hj
  rcases (show j = 0 by omega) with rfl
  exact (bl (bl (bl (bl (bl (bl (bl (br (br (br h))))))))))
theorem two_e {A : Array Value} {s : State} (h : narrow_1.before A s = true) : (Cond.eq (.string "Overwalks" 217) (.string "OverwalksModel" 57)).before A s = true := (bl (bl (bl (bl (br (bl (bl (br (br (br h))))))))))
theorem ls_e : (Cond.laysStatic "java/lang/Integer" "DigitTens" "[B" ∈ tables_1 ∧ Cond.laysStatic "java/lang/Integer" "DigitOnes" "[B" ∈ tables_1 ∧ Cond.laysStatic "java/lang/String" "COMPACT_STRINGS" "Z" ∈ tables_1) ∧ Cond.laysStatic "java/lang/Throwable" "UNASSIGNED_STACK" "[Ljava/lang/StackTraceElement;" ∈ tables_1 ∧ Cond.laysStatic "java/lang/Throwable" "SUPPRESSED_SENTINEL" "Ljava/util/List;" ∈ tables_1 := by decide +kernel
theorem in_e : ∀ C ∈ ["Overwalks$Kind", "java/lang/Integer", "java/lang/String", "java/lang/Throwable"], Cond.initialized C ∈ tables_1 := by decide +kernel
theorem ar_e : (Cond.arrayClass .int ∈ tables_1 ∧ Cond.arrayClass .boolean ∈ tables_1 ∧ Cond.arrayClass .byte ∈ tables_1) ∧ Cond.arrayOver (.object "Overwalks$Shelf") ∈ tables_1 ∧ Cond.arrayOver (.object "Overwalks$Walk") ∈ tables_1 ∧ Cond.arrayOver (.array .int) ∈ tables_1 := by decide +kernel
def nFs : List Nat := [4, 4, 5, 9, 7, 2, 14]
theorem ni_e : ∀ c, c < 7 → Cond.instantiable (CN c) (nFs.getD c 0) ∈ tables_1 := by decide +kernel
end
section
/-! 60.start -/
/-! the law's first frame -/
/-- the constants -/
def K0 (L : Nat) (xs : Nat → Int32) : AH := fun i => if i = 0 then .inl (0, L, .inl xs) else if 1 ≤ i ∧ i ≤ 5 then .inr (7, [.int (bI (kP i)), .int (bI (kN i)), .int (bI (kE i))]) else if i = 6 then .inl (2, 100, .inl (fun j => Int32.ofNat (48 + j / 10))) else if i = 7 then .inl (2, 100, .inl (fun j => Int32.ofNat (48 + j % 10))) else if i = 40 then .inr (0, [.ref 41, .int 0]) else if i = 41 then .inl (2, 1, .inl (fun _ => 33)) else if i = 48 then .inr (0, [.ref 49, .int 0]) else if i = 49 then .inl (2, 0, .inl (fun _ => 0)) else if i = 50 then .inr (0, [.ref 51, .int 0]) else if i = 51 then .inl (2, 1, .inl (fun _ => 32)) else if i = 52 then .inr (0, [.ref 53, .int 0]) else if i = 53 then .inl (2, 1, .inl (fun _ => 45)) else if i = 54 then .inr (0, [.ref 55, .int 0]) else if i = 55 then .inl (2, 1, .inl (fun _ => 47)) else .inl (5, 0, .inl (fun _ => 0))
theorem K0_inr {L : Nat} {xs : Nat → Int32} {i ci : Nat} {fs : List Value} (h : K0 L xs i = .inr (ci, fs)) : ((1 ≤ i ∧ i ≤ 5) ∧ ci = 7 ∧ fs = [.int (bI (kP i)), .int (bI (kN i)), .int (bI (kE i))]) ∨ ((i = 40) ∧ ci = 0 ∧ fs = [.ref 41, .int 0]) ∨ ((i = 48) ∧ ci = 0 ∧ fs = [.ref 49, .int 0]) ∨ ((i = 50) ∧ ci = 0 ∧ fs = [.ref 51, .int 0]) ∨ ((i = 52) ∧ ci = 0 ∧ fs = [.ref 53, .int 0]) ∨ ((i = 54) ∧ ci = 0 ∧ fs = [.ref 55, .int 0]) := by
  unfold K0 at h
  by_cases d0 : i = 0
  · rw [if_pos d0] at h
    cases h
  rw [if_neg d0] at h
  by_cases d1 : 1 ≤ i ∧ i ≤ 5
  · rw [if_pos d1] at h
    cases h
    exact Or.inl ⟨d1, rfl, rfl⟩
  rw [if_neg d1] at h
  by_cases d2 : i = 6
  · rw [if_pos d2] at h
    cases h
  rw [if_neg d2] at h
  by_cases d3 : i = 7
  · rw [if_pos d3] at h
    cases h
  rw [if_neg d3] at h
  by_cases d4 : i = 40
  · rw [if_pos d4] at h
    cases h
    exact Or.inr (Or.inl ⟨d4, rfl, rfl⟩)
  rw [if_neg d4] at h
  by_cases d5 : i = 41
  · rw [if_pos d5] at h
    cases h
  rw [if_neg d5] at h
  by_cases d6 : i = 48
  · rw [if_pos d6] at h
    cases h
    exact Or.inr (Or.inr (Or.inl ⟨d6, rfl, rfl⟩))
  rw [if_neg d6] at h
  by_cases d7 : i = 49
  · rw [if_pos d7] at h
    cases h
  rw [if_neg d7] at h
  by_cases d8 : i = 50
  · rw [if_pos d8] at h
    cases h
    exact Or.inr (Or.inr (Or.inr (Or.inl ⟨d8, rfl, rfl⟩)))
  rw [if_neg d8] at h
  by_cases d9 : i = 51
  · rw [if_pos d9] at h
    cases h
  rw [if_neg d9] at h
  by_cases d10 : i = 52
  · rw [if_pos d10] at h
    cases h
    exact Or.inr (Or.inr (Or.inr (Or.inr (Or.inl ⟨d10, rfl, rfl⟩))))
  rw [if_neg d10] at h
  by_cases d11 : i = 53
  · rw [if_pos d11] at h
    cases h
  rw [if_neg d11] at h
  by_cases d12 : i = 54
  · rw [if_pos d12] at h
    cases h
    exact Or.inr (Or.inr (Or.inr (Or.inr (Or.inr (⟨d12, rfl, rfl⟩)))))
  rw [if_neg d12] at h
  by_cases d13 : i = 55
  · rw [if_pos d13] at h
    cases h
  rw [if_neg d13] at h
  cases h
theorem K0_inl {L : Nat} {xs : Nat → Int32} {i t n : Nat} {f : Nat → Int32} (h : K0 L xs i = .inl (t, n, .inl f)) (ht : t < 3) : ((i = 0) ∧ t = 0 ∧ n = L ∧ f = xs) ∨ ((i = 6) ∧ t = 2 ∧ n = 100 ∧ f = (fun j => Int32.ofNat (48 + j / 10))) ∨ ((i = 7) ∧ t = 2 ∧ n = 100 ∧ f = (fun j => Int32.ofNat (48 + j % 10))) ∨ ((i = 41) ∧ t = 2 ∧ n = 1 ∧ f = (fun _ => 33)) ∨ ((i = 49) ∧ t = 2 ∧ n = 0 ∧ f = (fun _ => 0)) ∨ ((i = 51) ∧ t = 2 ∧ n = 1 ∧ f = (fun _ => 32)) ∨ ((i = 53) ∧ t = 2 ∧ n = 1 ∧ f = (fun _ => 45)) ∨ ((i = 55) ∧ t = 2 ∧ n = 1 ∧ f = (fun _ => 47)) := by
  unfold K0 at h
  by_cases d0 : i = 0
  · rw [if_pos d0] at h
    cases h
    exact Or.inl ⟨d0, rfl, rfl, rfl⟩
  rw [if_neg d0] at h
  by_cases d1 : 1 ≤ i ∧ i ≤ 5
  · rw [if_pos d1] at h
    cases h
  rw [if_neg d1] at h
  by_cases d2 : i = 6
  · rw [if_pos d2] at h
    cases h
    exact Or.inr (Or.inl ⟨d2, rfl, rfl, rfl⟩)
  rw [if_neg d2] at h
  by_cases d3 : i = 7
  · rw [if_pos d3] at h
    cases h
    exact Or.inr (Or.inr (Or.inl ⟨d3, rfl, rfl, rfl⟩))
  rw [if_neg d3] at h
  by_cases d4 : i = 40
  · rw [if_pos d4] at h
    cases h
  rw [if_neg d4] at h
  by_cases d5 : i = 41
  · rw [if_pos d5] at h
    cases h
    exact Or.inr (Or.inr (Or.inr (Or.inl ⟨d5, rfl, rfl, rfl⟩)))
  rw [if_neg d5] at h
  by_cases d6 : i = 48
  · rw [if_pos d6] at h
    cases h
  rw [if_neg d6] at h
  by_cases d7 : i = 49
  · rw [if_pos d7] at h
    cases h
    exact Or.inr (Or.inr (Or.inr (Or.inr (Or.inl ⟨d7, rfl, rfl, rfl⟩))))
  rw [if_neg d7] at h
  by_cases d8 : i = 50
  · rw [if_pos d8] at h
    cases h
  rw [if_neg d8] at h
  by_cases d9 : i = 51
  · rw [if_pos d9] at h
    cases h
    exact Or.inr (Or.inr (Or.inr (Or.inr (Or.inr (Or.inl ⟨d9, rfl, rfl, rfl⟩)))))
  rw [if_neg d9] at h
  by_cases d10 : i = 52
  · rw [if_pos d10] at h
    cases h
  rw [if_neg d10] at h
  by_cases d11 : i = 53
  · rw [if_pos d11] at h
    cases h
    exact Or.inr (Or.inr (Or.inr (Or.inr (Or.inr (Or.inr (Or.inl ⟨d11, rfl, rfl, rfl⟩))))))
  rw [if_neg d11] at h
  by_cases d12 : i = 54
  · rw [if_pos d12] at h
    cases h
  rw [if_neg d12] at h
  by_cases d13 : i = 55
  · rw [if_pos d13] at h
    cases h
    exact Or.inr (Or.inr (Or.inr (Or.inr (Or.inr (Or.inr (Or.inr (⟨d13, rfl, rfl, rfl⟩)))))))
  rw [if_neg d13] at h
  cases h; exact absurd ht (by decide +kernel)
theorem K0_cl {L : Nat} {xs : Nat → Int32} {i : Nat} : clE nC (K0 L xs i) := by
  unfold K0
  by_cases d0 : i = 0
  · rw [if_pos d0]
    trivial
  rw [if_neg d0]
  by_cases d1 : 1 ≤ i ∧ i ≤ 5
  · rw [if_pos d1]
    intro v hv j e
    simp only [List.mem_cons, List.not_mem_nil, or_false] at hv
    rcases hv with rfl | rfl | rfl <;> cases e
  rw [if_neg d1]
  by_cases d2 : i = 6
  · rw [if_pos d2]
    trivial
  rw [if_neg d2]
  by_cases d3 : i = 7
  · rw [if_pos d3]
    trivial
  rw [if_neg d3]
  by_cases d4 : i = 40
  · rw [if_pos d4]
    intro v hv j e
    simp only [List.mem_cons, List.not_mem_nil, or_false] at hv
    rcases hv with rfl | rfl <;> cases e
    exact (by decide +kernel)
  rw [if_neg d4]
  by_cases d5 : i = 41
  · rw [if_pos d5]
    trivial
  rw [if_neg d5]
  by_cases d6 : i = 48
  · rw [if_pos d6]
    intro v hv j e
    simp only [List.mem_cons, List.not_mem_nil, or_false] at hv
    rcases hv with rfl | rfl <;> cases e
    exact (by decide +kernel)
  rw [if_neg d6]
  by_cases d7 : i = 49
  · rw [if_pos d7]
    trivial
  rw [if_neg d7]
  by_cases d8 : i = 50
  · rw [if_pos d8]
    intro v hv j e
    simp only [List.mem_cons, List.not_mem_nil, or_false] at hv
    rcases hv with rfl | rfl <;> cases e
    exact (by decide +kernel)
  rw [if_neg d8]
  by_cases d9 : i = 51
  · rw [if_pos d9]
    trivial
  rw [if_neg d9]
  by_cases d10 : i = 52
  · rw [if_pos d10]
    intro v hv j e
    simp only [List.mem_cons, List.not_mem_nil, or_false] at hv
    rcases hv with rfl | rfl <;> cases e
    exact (by decide +kernel)
  rw [if_neg d10]
  by_cases d11 : i = 53
  · rw [if_pos d11]
    trivial
  rw [if_neg d11]
  by_cases d12 : i = 54
  · rw [if_pos d12]
    intro v hv j e
    simp only [List.mem_cons, List.not_mem_nil, or_false] at hv
    rcases hv with rfl | rfl <;> cases e
    exact (by decide +kernel)
  rw [if_neg d12]
  by_cases d13 : i = 55
  · rw [if_pos d13]
    trivial
  rw [if_neg d13]
  trivial
theorem K0_kd {L : Nat} {xs : Nat → Int32} {k : Nat} (h1 : 1 ≤ k) (h2 : k ≤ 5) : KdF (K0 L xs) k := ⟨⟨h1, h2⟩, (if_neg (by omega)).trans (if_pos ⟨h1, h2⟩)⟩
theorem K0_tx {L : Nat} {xs : Nat → Int32} : TXT (K0 L xs) := ⟨⟨_, rfl, fun _ _ => rfl⟩, ⟨_, rfl, fun _ _ => rfl⟩, ⟨49, _, [], rfl, rfl, fun _ => rfl, by decide +kernel, by decide +kernel, rfl⟩, ⟨51, _, [], rfl, rfl, fun _ => rfl, by decide +kernel, by decide +kernel, rfl⟩, ⟨53, _, [], rfl, rfl, fun _ => rfl, by decide +kernel, by decide +kernel, rfl⟩, ⟨55, _, [], rfl, rfl, fun _ => rfl, by decide +kernel, by decide +kernel, rfl⟩, ⟨41, _, [], rfl, rfl, fun _ => rfl, by decide +kernel, by decide +kernel, rfl⟩⟩
theorem st_of {A : Array Value} {s : State} {F : Nat → Prop} {t : Term} {N : Nat} {b : Int32} (hN : N < 2 ^ 31) (h1 : (Cond.exactly t "java/lang/String").before A s = true) (h2 : (Cond.eq (.field t "java/lang/String" "coder" "B") (.int 0)).before A s = true) (h3 : (Cond.arrayOf (.field t "java/lang/String" "value" "[B") .byte).before A s = true) (h4 : (Cond.eq (.length (.field t "java/lang/String" "value" "[B")) (.int (Int32.ofNat N))).before A s = true) (h5 : ∀ j, j < N → (Cond.eq (.elem (.field t "java/lang/String" "value" "[B") (.int (Int32.ofNat j))) (.int b)).before A s = true) (hF : ∀ a : Nat, a < s.heap.size → ¬ F a) :
    ∃ a v : Nat, t.eval A s none [] s = some (.ref a) ∧ va_O "java/lang/String" a F s s.heap ∧ va_OF "java/lang/String" "coder" "B" (.int 0) a F s s.heap ∧ va_OF "java/lang/String" "value" "[B" (.ref v) a F s s.heap ∧ va_T .byte v N (fun _ => .int b) F s s.heap := by
  obtain ⟨a, c, cA, kA, q1, q2, q3, q4, q5, q6, -⟩ := Cond.exactly_spec (args := A) (first := s) (o := none) (s := s) (idx := []) (t := t) (cls := "java/lang/String") h1
  obtain ⟨v, hv, hT⟩ := va_Tof (f := fun _ => .int b) (A := F) hN h3 (va_eqt h4) (fun j hj => va_eqt (h5 j hj)) hF
  exact ⟨a, v, q1, ⟨cA, q3, q5, by rw [q6]; exact q2, hF a (Array.getElem?_eq_some_iff.mp q3).1⟩, vk_OFof q1 (va_eqt h2) hF, vk_OFof q1 hv hF, hT⟩
theorem ev_of {A : Array Value} {s : State} {t : Term} (h : (Cond.exactly t "java/lang/String").before A s = true) : ∃ a : Nat, t.eval A s none [] s = some (.ref a) := by
  obtain ⟨a, c, cA, kA, q1, -⟩ := Cond.exactly_spec (args := A) (first := s) (o := none) (s := s) (idx := []) (t := t) (cls := "java/lang/String") h
  exact ⟨a, q1⟩
theorem eq_of {A : Array Value} {s : State} {t u : Term} {a b : Nat} (h : (Cond.eq t u).before A s = true) (ht : t.eval A s none [] s = some (.ref a)) (hu : u.eval A s none [] s = some (.ref b)) : a = b := by
  simp [Cond.before, Cond.holds, Cond.value, ht, hu] at h
  exact h
theorem ac_of {A : Array Value} {s : State} {ty : FieldType} (h : (Cond.arrayClass ty).before A s = true) : ∃ c, ArrOfT s c ty ∧ s.vm.findClass ("[" ++ ty.toString) = some c := by
  obtain ⟨c, k, comp, f1, f2, f3⟩ := Cond.arrayClass_spec (args := A) (first := s) (o := none) (s := s) (idx := []) h
  exact ⟨c, fun N z => ⟨fun k h => (by cases h), k, f2, comp, f3⟩, f1⟩
theorem ao_of {A : Array Value} {s : State} {C : String} (h : (Cond.arrayOver (.object C)).before A s = true) : ∃ c, ArrOfT s c (.object C) ∧ va_RA s c (.object C) := by
  obtain ⟨comp, c, k, f1, -, f2, f3, f4⟩ := Cond.arrayOver_spec (args := A) (first := s) (o := none) (s := s) (idx := []) h
  exact ⟨c, fun N z => ⟨fun k h => (by cases h), k, f2, comp, f3⟩, k, comp, f2, f3, f1, f4⟩
theorem aa_of {A : Array Value} {s : State} (h : (Cond.arrayOver (.array .int)).before A s = true) : ∃ c, ArrOfT s c (.array .int) ∧ va_RA s c (.array .int) := by
  obtain ⟨comp, c, k, f1, f2, f3, f4⟩ := Cond.arrayOver_specA (args := A) (first := s) (o := none) (s := s) (idx := []) h
  exact ⟨c, fun N z => ⟨fun k h => (by cases h), k, f2, comp, f3⟩, f4⟩
theorem first_frame {p : Program} {l : Launch} {s : State} {m : MethodId} {meth : Method} {c : Code} {b L : Nat} {xs : Nat → Int32} (hst : l.stackTraces = false) (hx : p.tables.exec = Jvm.exec) (hb : c.code = code) (hr : meth.sig.returnType = ret) (hml : c.maxLocals = 7) (hown : s.vm.findClass "OverwalksLaw" = some m.cls) (hts : ∀ w ∈ lw_tbl, w.before #[Value.ref b] s = true) (hX : va_X b L xs s s.heap) (hL : L ≤ 3072) (hlk : meth.locks = false) (hn : narrow_1.before #[Value.ref b] s = true) (htb : c.exceptionTable.toList = []) :
    ∃ (G : GD), CX SR0 G ML_law p l s m #[Value.ref b] meth c (fun q => s.heap.size ≤ q) ∧ G.2.2.1 0 = b ∧ G.2.2.2 = K0 L xs := by
  have hA : ∀ a : Nat, a < s.heap.size → ¬ (fun q => s.heap.size ≤ q) a := fun a h g => absurd (Nat.lt_of_lt_of_le h g) (Nat.lt_irrefl _)
  have htt : ∀ w ∈ tables_1, w.before #[Value.ref b] s = true := fun w hw => hts w (List.mem_append_right _ (List.mem_append_left _ hw))
  have hin : ∀ C ∈ ["Overwalks$Kind", "java/lang/Integer", "java/lang/String", "java/lang/Throwable"], (Cond.initialized C).before #[Value.ref b] s = true := fun C h => htt _ (in_e C h)
  obtain ⟨aK, hE, eK⟩ := va_Enof2 (A := fun q => s.heap.size ≤ q) (F := FK) (fun i hi => htt _ (kd_l i hi)) (hin _ (by decide +kernel)) (kd_x hn) (kd_f hn) (kd_d hn) hA
  obtain ⟨dt, et, hdt⟩ := va_Tof (f := fun j => .int (Int32.ofNat (48 + j / 10))) (A := fun q => s.heap.size ≤ q) (by decide +kernel) (dg_ta hn) (va_eqt (dg_tl hn)) (fun j hj => va_eqt (dg_t hn j hj)) hA
  obtain ⟨dn, eo, hdo⟩ := va_Tof (f := fun j => .int (Int32.ofNat (48 + j % 10))) (A := fun q => s.heap.size ≤ q) (by decide +kernel) (dg_oa hn) (va_eqt (dg_ol hn)) (fun j hj => va_eqt (dg_o hn j hj)) hA
  obtain ⟨a10, e0⟩ := ev_of (sx_0 hn)
  obtain ⟨a12, e1⟩ := ev_of (sx_1 hn)
  obtain ⟨a14, e2⟩ := ev_of (sx_2 hn)
  obtain ⟨a16, e3⟩ := ev_of (sx_3 hn)
  obtain ⟨a18, e4⟩ := ev_of (sx_4 hn)
  obtain ⟨a20, e5⟩ := ev_of (sx_5 hn)
  obtain ⟨a22, e6⟩ := ev_of (sx_6 hn)
  obtain ⟨a24, e7⟩ := ev_of (sx_7 hn)
  obtain ⟨a26, e8⟩ := ev_of (sx_8 hn)
  obtain ⟨a28, e9⟩ := ev_of (sx_9 hn)
  obtain ⟨a30, e10⟩ := ev_of (sx_10 hn)
  obtain ⟨a32, e11⟩ := ev_of (sx_11 hn)
  obtain ⟨a34, e12⟩ := ev_of (sx_12 hn)
  obtain ⟨a36, e13⟩ := ev_of (sx_13 hn)
  obtain ⟨a38, e14⟩ := ev_of (sx_14 hn)
  obtain ⟨a40, v40, e20, hO40, hc40, hv40, hT40⟩ := st_of (F := fun q => s.heap.size ≤ q) (by decide +kernel) (sx_20 hn) (tx_40c hn) (tx_40a hn) (tx_40l hn) (tx_40e hn) hA
  obtain ⟨a42, e16⟩ := ev_of (sx_16 hn)
  obtain ⟨a44, e17⟩ := ev_of (sx_17 hn)
  obtain ⟨a46, e18⟩ := ev_of (sx_18 hn)
  obtain ⟨a48, v48, e19, hO48, hc48, hv48, hT48⟩ := st_of (F := fun q => s.heap.size ≤ q) (by decide +kernel) (sx_19 hn) (tx_48c hn) (tx_48a hn) (tx_48l hn) (tx_48e hn) hA
  obtain ⟨a50, v50, e21, hO50, hc50, hv50, hT50⟩ := st_of (F := fun q => s.heap.size ≤ q) (by decide +kernel) (sx_21 hn) (tx_50c hn) (tx_50a hn) (tx_50l hn) (tx_50e hn) hA
  obtain ⟨a52, v52, e22, hO52, hc52, hv52, hT52⟩ := st_of (F := fun q => s.heap.size ≤ q) (by decide +kernel) (sx_22 hn) (tx_52c hn) (tx_52a hn) (tx_52l hn) (tx_52e hn) hA
  obtain ⟨a54, v54, e23, hO54, hc54, hv54, hT54⟩ := st_of (F := fun q => s.heap.size ≤ q) (by decide +kernel) (sx_23 hn) (tx_54c hn) (tx_54a hn) (tx_54l hn) (tx_54e hn) hA
  obtain ⟨z15, e15⟩ := ev_of (sx_15 hn)
  have y15 := (eq_of (two_e hn) e15 e20).symm
  subst y15
  obtain ⟨c0, p0, q0⟩ := ac_of (htt _ ar_e.1.1)
  obtain ⟨c1, p1, q1⟩ := ac_of (htt _ ar_e.1.2.1)
  obtain ⟨c2, p2, q2⟩ := ac_of (htt _ ar_e.1.2.2)
  obtain ⟨c3, p3, q3⟩ := ao_of (htt _ ar_e.2.1)
  obtain ⟨c4, p4, q4⟩ := ao_of (htt _ ar_e.2.2.1)
  obtain ⟨c5, p5, q5⟩ := aa_of (htt _ ar_e.2.2.2)
  have hk : ∀ c : Nat, ∃ q : ClassId × (Nat → Nat), c < 7 → u_Kn s (CN c) (FT c) (FN c) q.1 q.2 := by
    intro c
    by_cases hc : c < 7
    · obtain ⟨cC, iS, h⟩ := u_known (ws := lw_tbl) (T := FT c) (N := FN c) hts (fun w hw => (List.mem_filter.mp (cls_ws hc w hw)).1) (htt _ (ni_e c hc))
      exact ⟨(cC, iS), fun _ => h⟩
    · exact ⟨(c0, fun _ => 0), fun h => absurd h hc⟩
  obtain ⟨qK, hqK⟩ := Classical.axiomOfChoice hk
  refine ⟨((fun c => (qK c).1, fun c => (qK c).2), (fun k => if k = 0 then c0 else if k = 1 then c1 else if k = 2 then c2 else if k = 3 then c3 else if k = 4 then c4 else c5), (fun k => if k = 0 then b else if k < 6 then aK (k - 1) else if k = 6 then dt else if k = 7 then dn else if k = 10 then a10 else if k = 12 then a12 else if k = 14 then a14 else if k = 16 then a16 else if k = 18 then a18 else if k = 20 then a20 else if k = 22 then a22 else if k = 24 then a24 else if k = 26 then a26 else if k = 28 then a28 else if k = 30 then a30 else if k = 32 then a32 else if k = 34 then a34 else if k = 36 then a36 else if k = 38 then a38 else if k = 40 then a40 else if k = 41 then v40 else if k = 42 then a42 else if k = 44 then a44 else if k = 46 then a46 else if k = 48 then a48 else if k = 49 then v48 else if k = 50 then a50 else if k = 51 then v50 else if k = 52 then a52 else if k = 53 then v52 else if k = 54 then a54 else if k = 55 then v54 else 0), K0 L xs), ⟨hx, hb, hr, hml, hown, fun w hw => hts w (List.mem_filter.mp hw).1, hlk, htb, hst, fun e => absurd e (by decide +kernel), ⟨?_, ?_⟩, ?_, ?_, ⟨htt _ ar_e.2.1, htt _ ar_e.2.2.1, htt _ ar_e.2.2.2, fun q hq => va_Nc.of (xp_e hn q hq)⟩, ⟨?_, ?_, ?_, vx_Zqof (htt _ ls_e.2.1) (hin _ (by decide +kernel)) (th_u hn) hA, vx_Zqof (htt _ ls_e.2.2) (hin _ (by decide +kernel)) (th_s hn) hA, ?_⟩, fun q h => h⟩, rfl, rfl⟩
  · intro c r hc
    have h7 := vwCl_lt hc
    cases Option.some.inj (hc.symm.trans (vwCl_at h7))
    exact hqK c h7
  · intro k q hk
    have h6 : k < 6 := (List.getElem?_eq_some_iff.mp hk).1
    rcases (show k = 0 ∨ k = 1 ∨ k = 2 ∨ k = 3 ∨ k = 4 ∨ k = 5 by omega) with rfl | rfl | rfl | rfl | rfl | rfl <;> cases hk
    · exact ⟨p0, q0⟩
    · exact ⟨p1, q1⟩
    · exact ⟨p2, q2⟩
    · exact ⟨p3, q3⟩
    · exact ⟨p4, q4⟩
    · exact ⟨p5, q5⟩
  · intro w hw
    obtain ⟨h1, h2⟩ := List.mem_filter.mp hw
    have h3 := hts w h1
    cases w <;> first | (simp [nwf] at h2; done) | exact va_Nw.of rfl h3
  · intro q hq
    have hw := htt _ (sr_r q hq)
    unfold SR0 at hq
    simp only [List.mem_cons, List.not_mem_nil, or_false] at hq
    rcases hq with rfl | rfl | rfl | rfl | rfl | rfl | rfl | rfl | rfl | rfl | rfl | rfl | rfl | rfl | rfl | rfl | rfl | rfl | rfl | rfl | rfl | rfl | rfl | rfl
    · exact vk_R.of hw e0
    · exact vk_R.of hw e1
    · exact vk_R.of hw e2
    · exact vk_R.of hw e3
    · exact vk_R.of hw e4
    · exact vk_R.of hw e5
    · exact vk_R.of hw e6
    · exact vk_R.of hw e7
    · exact vk_R.of hw e8
    · exact vk_R.of hw e9
    · exact vk_R.of hw e10
    · exact vk_R.of hw e11
    · exact vk_R.of hw e12
    · exact vk_R.of hw e13
    · exact vk_R.of hw e14
    · exact vk_R.of hw e15
    · exact vk_R.of hw e16
    · exact vk_R.of hw e17
    · exact vk_R.of hw e18
    · exact vk_R.of hw e19
    · exact vk_R.of hw e20
    · exact vk_R.of hw e21
    · exact vk_R.of hw e22
    · exact vk_R.of hw e23
  · intro i ci fs hi hf
    rcases K0_inr hf with ⟨hc9, rfl, rfl⟩ | ⟨hc9, rfl, rfl⟩ | ⟨hc9, rfl, rfl⟩ | ⟨hc9, rfl, rfl⟩ | ⟨hc9, rfl, rfl⟩ | ⟨hc9, rfl, rfl⟩
    · have e9 : (fun k => if k = 0 then b else if k < 6 then aK (k - 1) else if k = 6 then dt else if k = 7 then dn else if k = 10 then a10 else if k = 12 then a12 else if k = 14 then a14 else if k = 16 then a16 else if k = 18 then a18 else if k = 20 then a20 else if k = 22 then a22 else if k = 24 then a24 else if k = 26 then a26 else if k = 28 then a28 else if k = 30 then a30 else if k = 32 then a32 else if k = 34 then a34 else if k = 36 then a36 else if k = 38 then a38 else if k = 40 then a40 else if k = 41 then v40 else if k = 42 then a42 else if k = 44 then a44 else if k = 46 then a46 else if k = 48 then a48 else if k = 49 then v48 else if k = 50 then a50 else if k = 51 then v50 else if k = 52 then a52 else if k = 53 then v52 else if k = 54 then a54 else if k = 55 then v54 else 0) i = aK (i - 1) := (if_neg (by omega)).trans (if_pos (by omega))
      have h9 := hE.1 (i - 1) (by show i - 1 < 5; omega)
      show va_O (CN 7) ((fun k => if k = 0 then b else if k < 6 then aK (k - 1) else if k = 6 then dt else if k = 7 then dn else if k = 10 then a10 else if k = 12 then a12 else if k = 14 then a14 else if k = 16 then a16 else if k = 18 then a18 else if k = 20 then a20 else if k = 22 then a22 else if k = 24 then a24 else if k = 26 then a26 else if k = 28 then a28 else if k = 30 then a30 else if k = 32 then a32 else if k = 34 then a34 else if k = 36 then a36 else if k = 38 then a38 else if k = 40 then a40 else if k = 41 then v40 else if k = 42 then a42 else if k = 44 then a44 else if k = 46 then a46 else if k = 48 then a48 else if k = 49 then v48 else if k = 50 then a50 else if k = 51 then v50 else if k = 52 then a52 else if k = 53 then v52 else if k = 54 then a54 else if k = 55 then v54 else 0) i) _ _ _ ∧ ∀ (k : Nat) (v : Value), _ → va_OF _ _ _ _ ((fun k => if k = 0 then b else if k < 6 then aK (k - 1) else if k = 6 then dt else if k = 7 then dn else if k = 10 then a10 else if k = 12 then a12 else if k = 14 then a14 else if k = 16 then a16 else if k = 18 then a18 else if k = 20 then a20 else if k = 22 then a22 else if k = 24 then a24 else if k = 26 then a26 else if k = 28 then a28 else if k = 30 then a30 else if k = 32 then a32 else if k = 34 then a34 else if k = 36 then a36 else if k = 38 then a38 else if k = 40 then a40 else if k = 41 then v40 else if k = 42 then a42 else if k = 44 then a44 else if k = 46 then a46 else if k = 48 then a48 else if k = 49 then v48 else if k = 50 then a50 else if k = 51 then v50 else if k = 52 then a52 else if k = 53 then v52 else if k = 54 then a54 else if k = 55 then v54 else 0) i) _ _ _
      rw [e9]
      refine ⟨h9.2.1, fun k v hk => ?_⟩
      have h3 : k < 3 := (List.getElem?_eq_some_iff.mp hk).1
      have hq := h9.2.2
      rcases (show i = 1 ∨ i = 2 ∨ i = 3 ∨ i = 4 ∨ i = 5 by omega) with rfl | rfl | rfl | rfl | rfl <;> rcases (show k = 0 ∨ k = 1 ∨ k = 2 by omega) with rfl | rfl | rfl <;> cases hk
      · exact hq _ (List.mem_cons_self)
      · exact hq _ (List.mem_cons_of_mem _ List.mem_cons_self)
      · exact hq _ (List.mem_cons_of_mem _ (List.mem_cons_of_mem _ List.mem_cons_self))
      · exact hq _ (List.mem_cons_self)
      · exact hq _ (List.mem_cons_of_mem _ List.mem_cons_self)
      · exact hq _ (List.mem_cons_of_mem _ (List.mem_cons_of_mem _ List.mem_cons_self))
      · exact hq _ (List.mem_cons_self)
      · exact hq _ (List.mem_cons_of_mem _ List.mem_cons_self)
      · exact hq _ (List.mem_cons_of_mem _ (List.mem_cons_of_mem _ List.mem_cons_self))
      · exact hq _ (List.mem_cons_self)
      · exact hq _ (List.mem_cons_of_mem _ List.mem_cons_self)
      · exact hq _ (List.mem_cons_of_mem _ (List.mem_cons_of_mem _ List.mem_cons_self))
      · exact hq _ (List.mem_cons_self)
      · exact hq _ (List.mem_cons_of_mem _ List.mem_cons_self)
      · exact hq _ (List.mem_cons_of_mem _ (List.mem_cons_of_mem _ List.mem_cons_self))
    · subst hc9
      refine ⟨hO40, fun k v hk => ?_⟩
      have h2 : k < 2 := (List.getElem?_eq_some_iff.mp hk).1
      rcases (show k = 0 ∨ k = 1 by omega) with rfl | rfl <;> cases hk
      · exact hv40
      · exact hc40
    · subst hc9
      refine ⟨hO48, fun k v hk => ?_⟩
      have h2 : k < 2 := (List.getElem?_eq_some_iff.mp hk).1
      rcases (show k = 0 ∨ k = 1 by omega) with rfl | rfl <;> cases hk
      · exact hv48
      · exact hc48
    · subst hc9
      refine ⟨hO50, fun k v hk => ?_⟩
      have h2 : k < 2 := (List.getElem?_eq_some_iff.mp hk).1
      rcases (show k = 0 ∨ k = 1 by omega) with rfl | rfl <;> cases hk
      · exact hv50
      · exact hc50
    · subst hc9
      refine ⟨hO52, fun k v hk => ?_⟩
      have h2 : k < 2 := (List.getElem?_eq_some_iff.mp hk).1
      rcases (show k = 0 ∨ k = 1 by omega) with rfl | rfl <;> cases hk
      · exact hv52
      · exact hc52
    · subst hc9
      refine ⟨hO54, fun k v hk => ?_⟩
      have h2 : k < 2 := (List.getElem?_eq_some_iff.mp hk).1
      rcases (show k = 0 ∨ k = 1 by omega) with rfl | rfl <;> cases hk
      · exact hv54
      · exact hc54
  · intro i t n f hi hf ht
    rcases K0_inl hf ht with ⟨rfl, rfl, rfl, rfl⟩ | ⟨rfl, rfl, rfl, rfl⟩ | ⟨rfl, rfl, rfl, rfl⟩ | ⟨rfl, rfl, rfl, rfl⟩ | ⟨rfl, rfl, rfl, rfl⟩ | ⟨rfl, rfl, rfl, rfl⟩ | ⟨rfl, rfl, rfl, rfl⟩ | ⟨rfl, rfl, rfl, rfl⟩
    · obtain ⟨scr, g1, g2, g3, g4, g5⟩ := hX
      exact ⟨scr, g1, g2, g3, Nat.le_of_eq g4.symm, congrArg Nat.toInt32 g4, g5, hA _ (Array.getElem?_eq_some_iff.mp g1).1⟩
    · exact hdt
    · exact hdo
    · exact hT40
    · exact hT48
    · exact hT50
    · exact hT52
    · exact hT54
  · intro q hq
    unfold ST at hq
    simp only [List.mem_cons, List.not_mem_nil, or_false] at hq
    rcases hq with rfl | rfl | rfl | rfl | rfl | rfl | rfl | rfl
    · exact (hE.1 0 (by decide +kernel)).1
    · exact (hE.1 1 (by decide +kernel)).1
    · exact (hE.1 2 (by decide +kernel)).1
    · exact (hE.1 3 (by decide +kernel)).1
    · exact (hE.1 4 (by decide +kernel)).1
    · exact va_Zref (htt _ ls_e.1.1) (hin _ (by decide +kernel)) et hA
    · exact va_Zref (htt _ ls_e.1.2.1) (hin _ (by decide +kernel)) eo hA
    · exact va_Zof (htt _ ls_e.1.2.2) (hin _ (by decide +kernel)) (va_eqi (cs_e hn)) hA
  · intro i j h1 h2 h3 h4 e
    have ei : (fun k => if k = 0 then b else if k < 6 then aK (k - 1) else if k = 6 then dt else if k = 7 then dn else if k = 10 then a10 else if k = 12 then a12 else if k = 14 then a14 else if k = 16 then a16 else if k = 18 then a18 else if k = 20 then a20 else if k = 22 then a22 else if k = 24 then a24 else if k = 26 then a26 else if k = 28 then a28 else if k = 30 then a30 else if k = 32 then a32 else if k = 34 then a34 else if k = 36 then a36 else if k = 38 then a38 else if k = 40 then a40 else if k = 41 then v40 else if k = 42 then a42 else if k = 44 then a44 else if k = 46 then a46 else if k = 48 then a48 else if k = 49 then v48 else if k = 50 then a50 else if k = 51 then v50 else if k = 52 then a52 else if k = 53 then v52 else if k = 54 then a54 else if k = 55 then v54 else 0) i = aK (i - 1) := (if_neg (by omega)).trans (if_pos (by omega))
    have ej : (fun k => if k = 0 then b else if k < 6 then aK (k - 1) else if k = 6 then dt else if k = 7 then dn else if k = 10 then a10 else if k = 12 then a12 else if k = 14 then a14 else if k = 16 then a16 else if k = 18 then a18 else if k = 20 then a20 else if k = 22 then a22 else if k = 24 then a24 else if k = 26 then a26 else if k = 28 then a28 else if k = 30 then a30 else if k = 32 then a32 else if k = 34 then a34 else if k = 36 then a36 else if k = 38 then a38 else if k = 40 then a40 else if k = 41 then v40 else if k = 42 then a42 else if k = 44 then a44 else if k = 46 then a46 else if k = 48 then a48 else if k = 49 then v48 else if k = 50 then a50 else if k = 51 then v50 else if k = 52 then a52 else if k = 53 then v52 else if k = 54 then a54 else if k = 55 then v54 else 0) j = aK (j - 1) := (if_neg (by omega)).trans (if_pos (by omega))
    have e9 := hE.2 (i - 1) (j - 1) (by show i - 1 < 5; omega) (by show j - 1 < 5; omega) (ei.symm.trans ((show (fun k => if k = 0 then b else if k < 6 then aK (k - 1) else if k = 6 then dt else if k = 7 then dn else if k = 10 then a10 else if k = 12 then a12 else if k = 14 then a14 else if k = 16 then a16 else if k = 18 then a18 else if k = 20 then a20 else if k = 22 then a22 else if k = 24 then a24 else if k = 26 then a26 else if k = 28 then a28 else if k = 30 then a30 else if k = 32 then a32 else if k = 34 then a34 else if k = 36 then a36 else if k = 38 then a38 else if k = 40 then a40 else if k = 41 then v40 else if k = 42 then a42 else if k = 44 then a44 else if k = 46 then a46 else if k = 48 then a48 else if k = 49 then v48 else if k = 50 then a50 else if k = 51 then v50 else if k = 52 then a52 else if k = 53 then v52 else if k = 54 then a54 else if k = 55 then v54 else 0) i = (fun k => if k = 0 then b else if k < 6 then aK (k - 1) else if k = 6 then dt else if k = 7 then dn else if k = 10 then a10 else if k = 12 then a12 else if k = 14 then a14 else if k = 16 then a16 else if k = 18 then a18 else if k = 20 then a20 else if k = 22 then a22 else if k = 24 then a24 else if k = 26 then a26 else if k = 28 then a28 else if k = 30 then a30 else if k = 32 then a32 else if k = 34 then a34 else if k = 36 then a36 else if k = 38 then a38 else if k = 40 then a40 else if k = 41 then v40 else if k = 42 then a42 else if k = 44 then a44 else if k = 46 then a46 else if k = 48 then a48 else if k = 49 then v48 else if k = 50 then a50 else if k = 51 then v50 else if k = 52 then a52 else if k = 53 then v52 else if k = 54 then a54 else if k = 55 then v54 else 0) j from e).trans ej))
    omega
end
