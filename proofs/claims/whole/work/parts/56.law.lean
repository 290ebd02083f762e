/-! the law's own methods -/
/-- a number, or thrown is one of l -/
def OX (l : List String) (q : ARes × CS) : Prop := (∃ v, q.1 = rI v) ∨ ∃ E, E ∈ l ∧ q.1 = .inr E
/-- a text, or thrown is one of l -/
def OT (l : List String) (q : ARes × CS) : Prop := q.1 = ivN ∨ ∃ E, E ∈ l ∧ q.1 = .inr E
section
variable {l : List String} {σ τ : CS} {a : Int32} {g : Nat → ARes × CS}
theorem ox_i {v : Int32} : OX l (rI v, τ) := Or.inl ⟨v, rfl⟩
theorem ox_I (h : sI ∈ l) : OX l (xI, τ) := Or.inr ⟨_, h, rfl⟩
theorem ox_A (h : sA ∈ l) : OX l (xA, τ) := Or.inr ⟨_, h, rfl⟩
theorem ox_S (h : sS ∈ l) : OX l (xS, τ) := Or.inr ⟨_, h, rfl⟩
theorem ox_if {c : Prop} [Decidable c] {x y : ARes × CS} (h1 : OX l x) (h2 : OX l y) : OX l (if c then x else y) := by split <;> assumption
theorem ox_Sh (h : sI ∈ l) (hg : ∀ k, OX l (g k)) : OX l (onSh a σ g) := ox_if (ox_I h) (hg _)
theorem ox_Wk (h : sI ∈ l) (hg : ∀ k, OX l (g k)) : OX l (onWk a σ g) := ox_if (ox_I h) (hg _)
theorem ox_Rw (h : sI ∈ l) (hg : ∀ k, OX l (g k)) : OX l (onRw a σ g) := ox_Sh h (fun k => ox_if (ox_I h) (hg k))
theorem ox_Li (h : sI ∈ l) (hg : ∀ k, OX l (g k)) : OX l (onLi a σ g) := ox_if (ox_I h) (ox_Sh h hg)
theorem ot_t : OT l (ivN, τ) := Or.inl rfl
theorem ot_I (h : sI ∈ l) : OT l (xI, τ) := Or.inr ⟨_, h, rfl⟩
theorem ot_A (h : sA ∈ l) : OT l (xA, τ) := Or.inr ⟨_, h, rfl⟩
theorem ot_S (h : sS ∈ l) : OT l (xS, τ) := Or.inr ⟨_, h, rfl⟩
theorem ot_if {c : Prop} [Decidable c] {x y : ARes × CS} (h1 : OT l x) (h2 : OT l y) : OT l (if c then x else y) := by split <;> assumption
theorem ot_Sh (h : sI ∈ l) (hg : ∀ k, OT l (g k)) : OT l (onSh a σ g) := ot_if (ot_I h) (hg _)
theorem ot_Wk (h : sI ∈ l) (hg : ∀ k, OT l (g k)) : OT l (onWk a σ g) := ot_if (ot_I h) (hg _)
end
/-- a method of the law: its number tells what was thrown; out holds the answer -/
def LPo (h : AH) (n : Nat) (t : ARes → Int32) (q : ARes × CS) : ARes → AH → Nat → Prop := fun r' h' n' => r' = .inl (some (.int (t q.1))) ∧ n ≤ n' ∧ RC h' q.2 ∧ (∃ w s, h' 158 = .inr (5, [.long w, s]) ∧ ∀ v, q.1 = rI v → w = v.toInt64) ∧ ∀ i, i < 100 ∨ 135 ≤ i → i ≠ 158 → i < n → h' i = h i
/-- the same of a text -/
def LPt (h : AH) (n : Nat) (t : ARes → Int32) (q : ARes × CS) (c : List Int32) : ARes → AH → Nat → Prop := fun r' h' n' => r' = .inl (some (.int (t q.1))) ∧ n ≤ n' ∧ RC h' q.2 ∧ (∃ w s, h' 158 = .inr (5, [.long w, s]) ∧ (q.1 = ivN → ∃ x L, s = .ref x ∧ L ≤ 200 ∧ StN h' n' n x L c)) ∧ ∀ i, i < 100 ∨ 135 ≤ i → i ≠ 158 → i < n → h' i = h i
section
variable {h p : AH} {n n' : Nat} {t : ARes → Int32} {q : ARes × CS} {w : Int64} {s : Value}
theorem lp_x {E : String} {c : Int32} (e : q.1 = .inr E) (ht : t (.inr E) = c) (hR : RC p q.2) (hF : FrC h p n) (hO : h 158 = .inr (5, [.long w, s])) (hn : 159 ≤ n) (hn' : n ≤ n') : LPo h n t q (.inl (some (.int c))) p n' := ⟨by rw [e, ht], hn', hR, ⟨w, s, (hF 158 (by omega) (by omega)).trans hO, fun v e2 => by rw [e] at e2; cases e2⟩, fun i a _ hi => hF i a hi⟩
theorem lp_v {p9 : AH} {v : Int32} {a b : String} (e : q.1 = rI v) (hR : RC p q.2) (hF : FrC h p n) (h9 : p9 158 = .inr (5, [.long w, s])) (ew : w = v.toInt64) (hG : ∀ i, i ≠ 158 → p9 i = p i) : LPo h n (tc a b) q (.inl (some (.int 0))) p9 n := ⟨by rw [e]; rfl, Nat.le_refl _, hR.frT (fun i hi => hG i (by omega)), ⟨w, s, h9, fun v2 e2 => by rw [e] at e2; cases e2; exact ew⟩, fun i a b hi => (hG i b).trans (hF i a hi)⟩
theorem lt_x {E : String} {k : Int32} {c : List Int32} (e : q.1 = .inr E) (ht : t (.inr E) = k) (hR : RC p q.2) (hF : FrC h p n) (hO : h 158 = .inr (5, [.long w, s])) (hn : 159 ≤ n) (hn' : n ≤ n') : LPt h n t q c (.inl (some (.int k))) p n' := ⟨by rw [e, ht], hn', hR, ⟨w, s, (hF 158 (by omega) (by omega)).trans hO, fun e2 => by rw [e] at e2; cases e2⟩, fun i a _ hi => hF i a hi⟩
theorem lp_t {p9 : AH} {a b : String} {x L : Nat} {c : List Int32} (e : q.1 = ivN) (hR : RC p q.2) (hF : FrC h p n) (h9 : p9 158 = .inr (5, [.long w, .ref x])) (hG : ∀ i, i ≠ 158 → p9 i = p i) (hn' : n ≤ n') (hL : L ≤ 200) (hS : StN p n' n x L c) (hn : 159 ≤ n) : LPt h n (tc a b) q c (.inl (some (.int 0))) p9 n' := ⟨by rw [e]; rfl, hn', hR.frT (fun i hi => hG i (by omega)), ⟨w, _, h9, fun _ => ⟨x, L, rfl, hL, hS.fr (fun i a _ => hG i (by omega)) (Nat.le_refl _)⟩⟩, fun i a b hi => (hG i b).trans (hF i a hi)⟩
theorem cp_n {A : Nat → AH → Option Value → Prop} {l : List String} {n0 : Nat} (hO : OX l q) (k : ∀ h' v, q.1 = rI v → RC h' q.2 → FrC h h' n → A n h' (some (.int v))) : ∀ (v : Option Value) (h' : AH) (n' : Nat), n0 ≤ n' → CP h n q (.inl v) h' n' → A n' h' v := by
  rintro v h' n' - ⟨e, rfl, g1, g2⟩
  rcases hO with ⟨v, e2⟩ | ⟨E, -, e2⟩
  · rw [e2] at e
    cases e
    exact k h' v e2 g1 g2
  · rw [e2] at e
    cases e
theorem cp_e {A : String → AH → Nat → Prop} {l : List String} {n0 : Nat} (hO : OX l q) (k : ∀ E, E ∈ l → ∀ h', q.1 = .inr E → RC h' q.2 → FrC h h' n → A E h' n) : ∀ (E : String) (h' : AH) (n' : Nat), n0 ≤ n' → CP h n q (.inr E) h' n' → A E h' n' := by
  rintro E h' n' - ⟨e, rfl, g1, g2⟩
  rcases hO with ⟨v, e2⟩ | ⟨E2, hE, e2⟩
  · rw [e2] at e
    cases e
  · rw [e2] at e
    cases e
    exact k E hE h' e2 g1 g2
theorem ct_n {A : Nat → AH → Option Value → Prop} {l : List String} {n0 : Nat} {c : List Int32} (hO : OT l q) (k : ∀ h' n' x L, n ≤ n' → q.1 = ivN → L ≤ 200 → StN h' n' n x L c → RC h' q.2 → FrC h h' n → A n' h' (some (.ref x))) : ∀ (v : Option Value) (h' : AH) (n' : Nat), n0 ≤ n' → CTo h n q c (.inl v) h' n' → A n' h' v := by
  rintro v h' n' - ⟨g0, e, g1, g2⟩
  rcases hO with e2 | ⟨E, -, e2⟩
  · rw [e2] at e
    obtain ⟨x, L, e, g3, g4⟩ := e
    cases e
    exact k h' n' x L g0 e2 g3 g4 g1 g2
  · rw [e2] at e
    cases e
theorem ct_e {A : String → AH → Nat → Prop} {l : List String} {n0 : Nat} {c : List Int32} (hO : OT l q) (k : ∀ E, E ∈ l → ∀ h' n', n ≤ n' → q.1 = .inr E → RC h' q.2 → FrC h h' n → A E h' n') : ∀ (E : String) (h' : AH) (n' : Nat), n0 ≤ n' → CTo h n q c (.inr E) h' n' → A E h' n' := by
  rintro E h' n' - ⟨g0, e, g1, g2⟩
  rcases hO with e2 | ⟨E2, hE, e2⟩
  · rw [e2] at e
    obtain ⟨x, L, e, -⟩ := e
    cases e
  · rw [e2] at e
    cases e
    exact k E hE h' n' g0 e2 g1 g2
end
theorem all1 {P : String → Prop} {a : String} (h1 : P a) : ∀ E, E ∈ [a] → P E := fun E h => by
  rcases List.mem_singleton.mp h with rfl
  exact h1
theorem all2 {P : String → Prop} {a b : String} (h1 : P a) (h2 : P b) : ∀ E, E ∈ [a, b] → P E := fun E h => by
  rcases List.mem_cons.mp h with rfl | h
  · exact h1
  · exact all1 h2 E h
theorem all3 {P : String → Prop} {a b c : String} (h1 : P a) (h2 : P b) (h3 : P c) : ∀ E, E ∈ [a, b, c] → P E := fun E h => by
  rcases List.mem_cons.mp h with rfl | h
  · exact h1
  · exact all2 h2 h3 E h
theorem pas0 {P : Nat × Nat × Nat × Nat → Prop} : ∀ z ∈ ([] : List (Nat × Nat × Nat × Nat)), P z := fun z h => by cases h
theorem pas1 {P : Nat × Nat × Nat × Nat → Prop} {a : Nat × Nat × Nat × Nat} (h1 : P a) : ∀ z ∈ [a], P z := fun z h => by
  rcases List.mem_singleton.mp h with rfl
  exact h1
theorem pas2 {P : Nat × Nat × Nat × Nat → Prop} {a b : Nat × Nat × Nat × Nat} (h1 : P a) (h2 : P b) : ∀ z ∈ [a, b], P z := fun z h => by
  rcases List.mem_cons.mp h with rfl | h
  · exact h1
  · exact pas1 h2 z h
section
variable {SR : SRT} {M : MI} {d bc bs pc n : Nat} {lv : List (Nat × Value)} {h : AH} {Post : ARes → AH → Nat → Prop}
theorem swx_catchW {E : String} {pre suf : List (Nat × Nat × Nat × Nat)} {x : Nat × Nat × Nat × Nat} {k0 : Nat} {lv' : List (Nat × Value)} (hsplit : M.2.2.2.2 = pre ++ x :: suf) (hpass : ∀ z ∈ pre, z.2.2.2 ≠ 0 ∧ ∃ nm, Cond.classLink M.1.cls z.2.2.2 nm ∈ GT ∧ (E, nm) ∈ XP) (hx0 : x.1 ≤ pc ∧ pc < x.2.1) (h0 : x.2.2.2 ≠ 0) (hlink : Cond.classLink M.1.cls x.2.2.2 E ∈ GT) (hcast : Cond.castable E E ∈ NW)
    (hdg : decode M.2.1 x.2.2.1 = .ok (.astore k0, 2)) (hk : k0 < M.2.2.1) (hl9 : lv.filter (fun q => !(q.1 == k0) && !(q.1 + 1 == k0 && q.2.category == 2)) = lv') (k : SW SR M d bc bs (x.2.2.1 + 2) lv' [] h n Post) : SWX SR M d bc bs pc lv E h n Post := by
  subst hl9
  intro G p l e R s m args below meth c A ad0 n0 Q hc hr he H locs cells slots ls ad hm hl hx hbc hbs q9 ce rest hce hcv hcl
  obtain ⟨hx1, hb1, hr1, hml1, hown1, hts1, hlk1, htb1, hlt1, hin1, hK1, hN1, hSR1, hAO1, hC1, hA1⟩ := id hc
  have e1 : c.exceptionTable.toList = tableOf pre ++ ⟨x.1, x.2.1, x.2.2.1, x.2.2.2⟩ :: tableOf suf := by
    rw [htb1, hsplit]
    simp [tableOf]
  refine vx_catch hown1 (tableOf pre) ⟨x.1, x.2.1, x.2.2.1, x.2.2.2⟩ (tableOf suf) e1 (fun z hz => ?_) (by simp [covers]; omega) h0 (hts1 _ hlink) (va_Nw.use rfl (hN1 _ hcast)) hce hcv hcl ?_
  · obtain ⟨z', hz', rfl⟩ := List.mem_map.mp hz
    obtain ⟨g1, nm, g2, g3⟩ := hpass z' hz'
    exact Or.inr ⟨g1, nm, hts1 _ g2, hAO1.2.2.2 _ g3⟩
  · refine lv_astore hx1 hb1 hdg hl.1 hk rfl (fun ls' hl' => ?_)
    refine k G p l e R s m args below meth c A ad0 n0 Q hc hr he H locs cells slots ls' ad hm ⟨⟨hl'.1, hl'.2.1, fun q hq => ?_⟩, fun q hq => hl.2.1 q (List.mem_filter.mp hq).1, fun v hv => by cases hv⟩ hx hbc hbs
    apply hl'.2.2
    refine List.mem_cons_of_mem _ ?_
    obtain ⟨z, hz, rfl⟩ := List.mem_map.mp hq
    obtain ⟨z1, z2⟩ := List.mem_filter.mp hz
    refine List.mem_filter.mpr ⟨List.mem_map.mpr ⟨z, z1, rfl⟩, ?_⟩
    show (!(z.1 == k0) && !(z.1 + 1 == k0 && (em ad z.2).category == 2)) = true
    rw [em_cat]
    exact z2
end
theorem mm_IAS_I : sI ∈ [sI, sA, sS] := .head _
theorem mm_IAS_A : sA ∈ [sI, sA, sS] := .tail _ (.head _)
theorem mm_IAS_S : sS ∈ [sI, sA, sS] := .tail _ (.tail _ (.head _))
theorem ox_put {σ : CS} {a x : Int32} : OX [sI, sA, sS] (opPut σ a x) := by
  unfold opPut
  repeat' first
    | with_reducible exact ox_i
    | with_reducible exact ox_I mm_IAS_I
    | with_reducible exact ox_A mm_IAS_A
    | with_reducible exact ox_S mm_IAS_S
    | with_reducible refine ox_Sh mm_IAS_I (fun _ => ?_)
    | with_reducible refine ox_Wk mm_IAS_I (fun _ => ?_)
    | with_reducible refine ox_Rw mm_IAS_I (fun _ => ?_)
    | with_reducible refine ox_Li mm_IAS_I (fun _ => ?_)
    | with_reducible refine ox_if ?_ ?_
    | exact ox_i
    | exact ox_I mm_IAS_I
    | exact ox_A mm_IAS_A
    | exact ox_S mm_IAS_S
    | refine ox_Sh mm_IAS_I (fun _ => ?_)
    | refine ox_Wk mm_IAS_I (fun _ => ?_)
    | refine ox_Rw mm_IAS_I (fun _ => ?_)
    | refine ox_Li mm_IAS_I (fun _ => ?_)
    | refine ox_if ?_ ?_
    | split
theorem L_put {h : AH} {d bc bs n N : Nat} {σ : CS} {a x : Int32} {w : Int64} {s : Value} (hR : RC h σ) (hT : TXT h) (hV : IV σ N) (hN : N < 2 ^ 31) (hO : h 158 = .inr (5, [.long w, s])) (hn : 159 ≤ n) (hd : 12 ≤ d) (h1 : 60 ≤ bc) (h2 : 400 ≤ bs) : SM SR0 ML_put d bc bs [.ref 100, .int a, .int x, .ref 158] h n (LPo h n (tc sI sA) (opPut σ a x)) := by
  refine sm_ofH pn_OverwalksLaw (by decide +kernel) (Nat.le_of_ble_eq_true rfl) ?_
  refine sw_aload_n (pc' := 1) rfl dL_put_0 rfl ?_
  refine sw_aload_n (pc' := 2) rfl dL_put_1 rfl ?_
  refine sw_iload_n (pc' := 3) rfl dL_put_2 rfl ?_
  refine sw_iload_n (pc' := 4) rfl dL_put_3 rfl ?_
  refine sw_V (M' := MX3_put) (d' := d - 1) (bc' := 20) (bs' := 200) (ci := 4) (as := [_, _]) dL_put_4 w_398 ok_X3_put (m_put hR (by omega) (Nat.le_refl _) (Nat.le_refl _)) hR.1 rfl (by omega) (Nat.le_of_ble_eq_true rfl) (by omega) (by omega) (cp_e ox_put (all3 (fun p pe pR pF => ?_) (fun p pe pR pF => ?_) (fun p pe pR pF => ?_))) (cp_n ox_put (fun p v pe pR pF => ?_))
  · refine swx_catchW (E := "java/lang/IndexOutOfBoundsException") (pre := []) (suf := [(0, 11, 18, 21), (0, 11, 22, 23)]) (x := (0, 11, 14, 19)) (k0 := 4) (lv' := [(0, _), (1, _), (2, _), (3, _)]) rfl (pas0) (by decide +kernel) (by decide +kernel) w_395 v_325 dL_put_14 (by decide +kernel) rfl ?_
    refine sw_iconst (pc' := 17) (v := 1) rfl dL_put_16 (by decide +kernel) ?_
    refine sw_ret (v := some _) ⟨dL_put_17, _, rfl, rfl⟩ ?_
    exact lp_x pe tc_1 pR pF hO hn (Nat.le_refl _)
  · refine swx_catchW (E := "java/lang/IllegalArgumentException") (pre := [(0, 11, 14, 19)]) (suf := [(0, 11, 22, 23)]) (x := (0, 11, 18, 21)) (k0 := 4) (lv' := [(0, _), (1, _), (2, _), (3, _)]) rfl (pas1 ⟨by decide +kernel, _, w_395, .tail _ (.tail _ (.head _))⟩) (by decide +kernel) (by decide +kernel) w_396 v_249 dL_put_18 (by decide +kernel) rfl ?_
    refine sw_iconst (pc' := 21) (v := 2) rfl dL_put_20 (by decide +kernel) ?_
    refine sw_ret (v := some _) ⟨dL_put_21, _, rfl, rfl⟩ ?_
    exact lp_x pe (tc_2 sAI) pR pF hO hn (Nat.le_refl _)
  · refine swx_catchW (E := "java/lang/IllegalStateException") (pre := [(0, 11, 14, 19), (0, 11, 18, 21)]) (suf := []) (x := (0, 11, 22, 23)) (k0 := 4) (lv' := [(0, _), (1, _), (2, _), (3, _)]) rfl (pas2 ⟨by decide +kernel, _, w_395, .tail _ (.tail _ (.tail _ (.tail _ (.head _))))⟩ ⟨by decide +kernel, _, w_396, .tail _ (.tail _ (.tail _ (.tail _ (.tail _ (.head _)))))⟩) (by decide +kernel) (by decide +kernel) w_397 v_378 dL_put_22 (by decide +kernel) rfl ?_
    refine sw_iconst (pc' := 25) (v := 3) rfl dL_put_24 (by decide +kernel) ?_
    refine sw_ret (v := some _) ⟨dL_put_25, _, rfl, rfl⟩ ?_
    exact lp_x pe (tc_3 sSI sSA) pR pF hO hn (Nat.le_refl _)
  refine sw_i2l (pc' := 8) rfl dL_put_7 ?_
  refine sw_putN (ci := 5) (k := 0) (pc' := 11) rfl dL_put_8 (by decide +kernel) (by decide +kernel) v_347 rfl ((pF 158 (by omega) (by omega)).trans hO) (by show 100 ≤ _; omega) (Nat.le_of_ble_eq_true rfl) rfl rfl ?_
  refine sw_nm (fun g1 eg1 => ?_)
  have zg1 := (congrFun eg1 158).trans (up_s (h := p) (i := 158))
  refine sw_goto (tgt := 26) dL_put_11 (by decide +kernel) ?_
  refine sw_iconst (pc' := 27) (v := 0) rfl dL_put_26 (by decide +kernel) ?_
  refine sw_ret (v := some _) ⟨dL_put_27, _, rfl, rfl⟩ ?_
  exact lp_v pe pR pF zg1 rfl (fun i h1 => (congrFun eg1 i).trans ((up_n h1).trans (rfl)))
theorem ox_putAll {σ : CS} {a x y z v : Int32} : OX [sI, sA, sS] (opPutAll σ a x y z v) := by
  unfold opPutAll
  repeat' first
    | with_reducible exact ox_i
    | with_reducible exact ox_I mm_IAS_I
    | with_reducible exact ox_A mm_IAS_A
    | with_reducible exact ox_S mm_IAS_S
    | with_reducible refine ox_Sh mm_IAS_I (fun _ => ?_)
    | with_reducible refine ox_Wk mm_IAS_I (fun _ => ?_)
    | with_reducible refine ox_Rw mm_IAS_I (fun _ => ?_)
    | with_reducible refine ox_Li mm_IAS_I (fun _ => ?_)
    | with_reducible refine ox_if ?_ ?_
    | exact ox_i
    | exact ox_I mm_IAS_I
    | exact ox_A mm_IAS_A
    | exact ox_S mm_IAS_S
    | refine ox_Sh mm_IAS_I (fun _ => ?_)
    | refine ox_Wk mm_IAS_I (fun _ => ?_)
    | refine ox_Rw mm_IAS_I (fun _ => ?_)
    | refine ox_Li mm_IAS_I (fun _ => ?_)
    | refine ox_if ?_ ?_
    | split
theorem L_putAll {h : AH} {d bc bs n N : Nat} {σ : CS} {a x y z v : Int32} {w : Int64} {s : Value} (hR : RC h σ) (hT : TXT h) (hV : IV σ N) (hN : N < 2 ^ 31) (hO : h 158 = .inr (5, [.long w, s])) (hn : 159 ≤ n) (hd : 12 ≤ d) (h1 : 60 ≤ bc) (h2 : 400 ≤ bs) : SM SR0 ML_putAll d bc bs [.ref 100, .int a, .int x, .int y, .int z, .int v, .ref 158] h n (LPo h n (tc sI sA) (opPutAll σ a x y z v)) := by
  refine sm_ofH pn_OverwalksLaw (by decide +kernel) (Nat.le_of_ble_eq_true rfl) ?_
  refine sw_aload (pc' := 2) rfl dL_putAll_0 rfl ?_
  refine sw_aload_n (pc' := 3) rfl dL_putAll_2 rfl ?_
  refine sw_iload_n (pc' := 4) rfl dL_putAll_3 rfl ?_
  refine sw_iload_n (pc' := 5) rfl dL_putAll_4 rfl ?_
  refine sw_iload_n (pc' := 6) rfl dL_putAll_5 rfl ?_
  refine sw_iload (pc' := 8) rfl dL_putAll_6 rfl ?_
  refine sw_iload (pc' := 10) rfl dL_putAll_8 rfl ?_
  refine sw_V (M' := MX3_putAll) (d' := d - 1) (bc' := 20) (bs' := 200) (ci := 4) (as := [_, _, _, _, _]) dL_putAll_10 w_460 ok_X3_putAll (m_putAll hR (by omega) (Nat.le_refl _) (Nat.le_refl _)) hR.1 rfl (by omega) (Nat.le_of_ble_eq_true rfl) (by omega) (by omega) (cp_e ox_putAll (all3 (fun p pe pR pF => ?_) (fun p pe pR pF => ?_) (fun p pe pR pF => ?_))) (cp_n ox_putAll (fun p v pe pR pF => ?_))
  · refine swx_catchW (E := "java/lang/IndexOutOfBoundsException") (pre := []) (suf := [(0, 17, 24, 21), (0, 17, 28, 23)]) (x := (0, 17, 20, 19)) (k0 := 7) (lv' := [(0, _), (1, _), (2, _), (3, _), (4, _), (5, _), (6, _)]) rfl (pas0) (by decide +kernel) (by decide +kernel) w_395 v_325 dL_putAll_20 (by decide +kernel) rfl ?_
    refine sw_iconst (pc' := 23) (v := 1) rfl dL_putAll_22 (by decide +kernel) ?_
    refine sw_ret (v := some _) ⟨dL_putAll_23, _, rfl, rfl⟩ ?_
    exact lp_x pe tc_1 pR pF hO hn (Nat.le_refl _)
  · refine swx_catchW (E := "java/lang/IllegalArgumentException") (pre := [(0, 17, 20, 19)]) (suf := [(0, 17, 28, 23)]) (x := (0, 17, 24, 21)) (k0 := 7) (lv' := [(0, _), (1, _), (2, _), (3, _), (4, _), (5, _), (6, _)]) rfl (pas1 ⟨by decide +kernel, _, w_395, .tail _ (.tail _ (.head _))⟩) (by decide +kernel) (by decide +kernel) w_396 v_249 dL_putAll_24 (by decide +kernel) rfl ?_
    refine sw_iconst (pc' := 27) (v := 2) rfl dL_putAll_26 (by decide +kernel) ?_
    refine sw_ret (v := some _) ⟨dL_putAll_27, _, rfl, rfl⟩ ?_
    exact lp_x pe (tc_2 sAI) pR pF hO hn (Nat.le_refl _)
  · refine swx_catchW (E := "java/lang/IllegalStateException") (pre := [(0, 17, 20, 19), (0, 17, 24, 21)]) (suf := []) (x := (0, 17, 28, 23)) (k0 := 7) (lv' := [(0, _), (1, _), (2, _), (3, _), (4, _), (5, _), (6, _)]) rfl (pas2 ⟨by decide +kernel, _, w_395, .tail _ (.tail _ (.tail _ (.tail _ (.head _))))⟩ ⟨by decide +kernel, _, w_396, .tail _ (.tail _ (.tail _ (.tail _ (.tail _ (.head _)))))⟩) (by decide +kernel) (by decide +kernel) w_397 v_378 dL_putAll_28 (by decide +kernel) rfl ?_
    refine sw_iconst (pc' := 31) (v := 3) rfl dL_putAll_30 (by decide +kernel) ?_
    refine sw_ret (v := some _) ⟨dL_putAll_31, _, rfl, rfl⟩ ?_
    exact lp_x pe (tc_3 sSI sSA) pR pF hO hn (Nat.le_refl _)
  refine sw_i2l (pc' := 14) rfl dL_putAll_13 ?_
  refine sw_putN (ci := 5) (k := 0) (pc' := 17) rfl dL_putAll_14 (by decide +kernel) (by decide +kernel) v_347 rfl ((pF 158 (by omega) (by omega)).trans hO) (by show 100 ≤ _; omega) (Nat.le_of_ble_eq_true rfl) rfl rfl ?_
  refine sw_nm (fun g1 eg1 => ?_)
  have zg1 := (congrFun eg1 158).trans (up_s (h := p) (i := 158))
  refine sw_goto (tgt := 32) dL_putAll_17 (by decide +kernel) ?_
  refine sw_iconst (pc' := 33) (v := 0) rfl dL_putAll_32 (by decide +kernel) ?_
  refine sw_ret (v := some _) ⟨dL_putAll_33, _, rfl, rfl⟩ ?_
  exact lp_v pe pR pF zg1 rfl (fun i h1 => (congrFun eg1 i).trans ((up_n h1).trans (rfl)))
theorem mm_IA_I : sI ∈ [sI, sA] := .head _
theorem mm_IA_A : sA ∈ [sI, sA] := .tail _ (.head _)
theorem ox_take {σ : CS} {a x : Int32} : OX [sI, sA] (opTake σ a x) := by
  unfold opTake
  repeat' first
    | with_reducible exact ox_i
    | with_reducible exact ox_I mm_IA_I
    | with_reducible exact ox_A mm_IA_A
    | with_reducible refine ox_Sh mm_IA_I (fun _ => ?_)
    | with_reducible refine ox_Wk mm_IA_I (fun _ => ?_)
    | with_reducible refine ox_Rw mm_IA_I (fun _ => ?_)
    | with_reducible refine ox_Li mm_IA_I (fun _ => ?_)
    | with_reducible refine ox_if ?_ ?_
    | exact ox_i
    | exact ox_I mm_IA_I
    | exact ox_A mm_IA_A
    | refine ox_Sh mm_IA_I (fun _ => ?_)
    | refine ox_Wk mm_IA_I (fun _ => ?_)
    | refine ox_Rw mm_IA_I (fun _ => ?_)
    | refine ox_Li mm_IA_I (fun _ => ?_)
    | refine ox_if ?_ ?_
    | split
theorem L_take {h : AH} {d bc bs n N : Nat} {σ : CS} {a x : Int32} {w : Int64} {s : Value} (hR : RC h σ) (hT : TXT h) (hV : IV σ N) (hN : N < 2 ^ 31) (hO : h 158 = .inr (5, [.long w, s])) (hn : 159 ≤ n) (hd : 12 ≤ d) (h1 : 60 ≤ bc) (h2 : 400 ≤ bs) : SM SR0 ML_take d bc bs [.ref 100, .int a, .int x, .ref 158] h n (LPo h n (tc sI sA) (opTake σ a x)) := by
  refine sm_ofH pn_OverwalksLaw (by decide +kernel) (Nat.le_of_ble_eq_true rfl) ?_
  refine sw_aload_n (pc' := 1) rfl dL_take_0 rfl ?_
  refine sw_aload_n (pc' := 2) rfl dL_take_1 rfl ?_
  refine sw_iload_n (pc' := 3) rfl dL_take_2 rfl ?_
  refine sw_iload_n (pc' := 4) rfl dL_take_3 rfl ?_
  refine sw_V (M' := MX3_take) (d' := d - 1) (bc' := 20) (bs' := 200) (ci := 4) (as := [_, _]) dL_take_4 w_477 ok_X3_take (m_take hR (by omega) (Nat.le_refl _) (Nat.le_refl _) hV.2) hR.1 rfl (by omega) (Nat.le_of_ble_eq_true rfl) (by omega) (by omega) (cp_e ox_take (all2 (fun p pe pR pF => ?_) (fun p pe pR pF => ?_))) (cp_n ox_take (fun p v pe pR pF => ?_))
  · refine swx_catchW (E := "java/lang/IndexOutOfBoundsException") (pre := []) (suf := [(0, 11, 18, 21)]) (x := (0, 11, 14, 19)) (k0 := 4) (lv' := [(0, _), (1, _), (2, _), (3, _)]) rfl (pas0) (by decide +kernel) (by decide +kernel) w_395 v_325 dL_take_14 (by decide +kernel) rfl ?_
    refine sw_iconst (pc' := 17) (v := 1) rfl dL_take_16 (by decide +kernel) ?_
    refine sw_ret (v := some _) ⟨dL_take_17, _, rfl, rfl⟩ ?_
    exact lp_x pe tc_1 pR pF hO hn (Nat.le_refl _)
  · refine swx_catchW (E := "java/lang/IllegalArgumentException") (pre := [(0, 11, 14, 19)]) (suf := []) (x := (0, 11, 18, 21)) (k0 := 4) (lv' := [(0, _), (1, _), (2, _), (3, _)]) rfl (pas1 ⟨by decide +kernel, _, w_395, .tail _ (.tail _ (.head _))⟩) (by decide +kernel) (by decide +kernel) w_396 v_249 dL_take_18 (by decide +kernel) rfl ?_
    refine sw_iconst (pc' := 21) (v := 2) rfl dL_take_20 (by decide +kernel) ?_
    refine sw_ret (v := some _) ⟨dL_take_21, _, rfl, rfl⟩ ?_
    exact lp_x pe (tc_2 sAI) pR pF hO hn (Nat.le_refl _)
  refine sw_i2l (pc' := 8) rfl dL_take_7 ?_
  refine sw_putN (ci := 5) (k := 0) (pc' := 11) rfl dL_take_8 (by decide +kernel) (by decide +kernel) v_347 rfl ((pF 158 (by omega) (by omega)).trans hO) (by show 100 ≤ _; omega) (Nat.le_of_ble_eq_true rfl) rfl rfl ?_
  refine sw_nm (fun g1 eg1 => ?_)
  have zg1 := (congrFun eg1 158).trans (up_s (h := p) (i := 158))
  refine sw_goto (tgt := 22) dL_take_11 (by decide +kernel) ?_
  refine sw_iconst (pc' := 23) (v := 0) rfl dL_take_22 (by decide +kernel) ?_
  refine sw_ret (v := some _) ⟨dL_take_23, _, rfl, rfl⟩ ?_
  exact lp_v pe pR pF zg1 rfl (fun i h1 => (congrFun eg1 i).trans ((up_n h1).trans (rfl)))
theorem mm_I_I : sI ∈ [sI] := .head _
theorem ox_clear {σ : CS} {a : Int32} : OX [sI] (opClear σ a) := by
  unfold opClear
  repeat' first
    | with_reducible exact ox_i
    | with_reducible exact ox_I mm_I_I
    | with_reducible refine ox_Sh mm_I_I (fun _ => ?_)
    | with_reducible refine ox_Wk mm_I_I (fun _ => ?_)
    | with_reducible refine ox_Rw mm_I_I (fun _ => ?_)
    | with_reducible refine ox_Li mm_I_I (fun _ => ?_)
    | with_reducible refine ox_if ?_ ?_
    | exact ox_i
    | exact ox_I mm_I_I
    | refine ox_Sh mm_I_I (fun _ => ?_)
    | refine ox_Wk mm_I_I (fun _ => ?_)
    | refine ox_Rw mm_I_I (fun _ => ?_)
    | refine ox_Li mm_I_I (fun _ => ?_)
    | refine ox_if ?_ ?_
    | split
theorem L_clear {h : AH} {d bc bs n N : Nat} {σ : CS} {a : Int32} {w : Int64} {s : Value} (hR : RC h σ) (hT : TXT h) (hV : IV σ N) (hN : N < 2 ^ 31) (hO : h 158 = .inr (5, [.long w, s])) (hn : 159 ≤ n) (hd : 12 ≤ d) (h1 : 60 ≤ bc) (h2 : 400 ≤ bs) : SM SR0 ML_clear d bc bs [.ref 100, .int a, .ref 158] h n (LPo h n (tc sI sI) (opClear σ a)) := by
  refine sm_ofH pn_OverwalksLaw (by decide +kernel) (Nat.le_of_ble_eq_true rfl) ?_
  refine sw_aload_n (pc' := 1) rfl dL_clear_0 rfl ?_
  refine sw_aload_n (pc' := 2) rfl dL_clear_1 rfl ?_
  refine sw_iload_n (pc' := 3) rfl dL_clear_2 rfl ?_
  refine sw_V (M' := MX3_clear) (d' := d - 1) (bc' := 20) (bs' := 200) (ci := 4) (as := [_]) dL_clear_3 w_493 ok_X3_clear (m_clear hR (by omega) (Nat.le_refl _) (Nat.le_refl _)) hR.1 rfl (by omega) (Nat.le_of_ble_eq_true rfl) (by omega) (by omega) (cp_e ox_clear (all1 (fun p pe pR pF => ?_))) (cp_n ox_clear (fun p v pe pR pF => ?_))
  · refine swx_catch (E := "java/lang/IndexOutOfBoundsException") (pre := []) (suf := []) (x := (0, 10, 13, 19)) (k0 := 3) (lv' := [(0, _), (1, _), (2, _)]) rfl (pas0) (by decide +kernel) (by decide +kernel) w_395 v_325 dL_clear_13 (by decide +kernel) rfl ?_
    refine sw_iconst (pc' := 15) (v := 1) rfl dL_clear_14 (by decide +kernel) ?_
    refine sw_ret (v := some _) ⟨dL_clear_15, _, rfl, rfl⟩ ?_
    exact lp_x pe tc_1 pR pF hO hn (Nat.le_refl _)
  refine sw_i2l (pc' := 7) rfl dL_clear_6 ?_
  refine sw_putN (ci := 5) (k := 0) (pc' := 10) rfl dL_clear_7 (by decide +kernel) (by decide +kernel) v_347 rfl ((pF 158 (by omega) (by omega)).trans hO) (by show 100 ≤ _; omega) (Nat.le_of_ble_eq_true rfl) rfl rfl ?_
  refine sw_nm (fun g1 eg1 => ?_)
  have zg1 := (congrFun eg1 158).trans (up_s (h := p) (i := 158))
  refine sw_goto (tgt := 16) dL_clear_10 (by decide +kernel) ?_
  refine sw_iconst (pc' := 17) (v := 0) rfl dL_clear_16 (by decide +kernel) ?_
  refine sw_ret (v := some _) ⟨dL_clear_17, _, rfl, rfl⟩ ?_
  exact lp_v pe pR pF zg1 rfl (fun i h1 => (congrFun eg1 i).trans ((up_n h1).trans (rfl)))
theorem mm_AS_A : sA ∈ [sA, sS] := .head _
theorem mm_AS_S : sS ∈ [sA, sS] := .tail _ (.head _)
theorem ox_pair {σ : CS} {x y : Int32} : OX [sA, sS] (opPair σ x y) := by
  unfold opPair
  repeat' first
    | with_reducible exact ox_i
    | with_reducible exact ox_A mm_AS_A
    | with_reducible exact ox_S mm_AS_S
    | with_reducible refine ox_if ?_ ?_
    | exact ox_i
    | exact ox_A mm_AS_A
    | exact ox_S mm_AS_S
    | refine ox_if ?_ ?_
    | split
theorem L_pair {h : AH} {d bc bs n N : Nat} {σ : CS} {x y : Int32} {w : Int64} {s : Value} (hR : RC h σ) (hT : TXT h) (hV : IV σ N) (hN : N < 2 ^ 31) (hO : h 158 = .inr (5, [.long w, s])) (hn : 159 ≤ n) (hd : 12 ≤ d) (h1 : 60 ≤ bc) (h2 : 400 ≤ bs) : SM SR0 ML_pair d bc bs [.ref 100, .int x, .int y, .ref 158] h n (LPo h n (tc sA sS) (opPair σ x y)) := by
  refine sm_ofH pn_OverwalksLaw (by decide +kernel) (Nat.le_of_ble_eq_true rfl) ?_
  refine sw_aload_n (pc' := 1) rfl dL_pair_0 rfl ?_
  refine sw_aload_n (pc' := 2) rfl dL_pair_1 rfl ?_
  refine sw_iload_n (pc' := 3) rfl dL_pair_2 rfl ?_
  refine sw_iload_n (pc' := 4) rfl dL_pair_3 rfl ?_
  refine sw_V (M' := MX3_pair) (d' := d - 1) (bc' := 20) (bs' := 200) (ci := 4) (as := [_, _]) dL_pair_4 w_504 ok_X3_pair (m_pair hR (by omega) (Nat.le_refl _) (Nat.le_refl _) hV.2) hR.1 rfl (by omega) (Nat.le_of_ble_eq_true rfl) (by omega) (by omega) (cp_e ox_pair (all2 (fun p pe pR pF => ?_) (fun p pe pR pF => ?_))) (cp_n ox_pair (fun p v pe pR pF => ?_))
  · refine swx_catchW (E := "java/lang/IllegalArgumentException") (pre := []) (suf := [(0, 11, 18, 23)]) (x := (0, 11, 14, 21)) (k0 := 4) (lv' := [(0, _), (1, _), (2, _), (3, _)]) rfl (pas0) (by decide +kernel) (by decide +kernel) w_396 v_249 dL_pair_14 (by decide +kernel) rfl ?_
    refine sw_iconst (pc' := 17) (v := 1) rfl dL_pair_16 (by decide +kernel) ?_
    refine sw_ret (v := some _) ⟨dL_pair_17, _, rfl, rfl⟩ ?_
    exact lp_x pe tc_1 pR pF hO hn (Nat.le_refl _)
  · refine swx_catchW (E := "java/lang/IllegalStateException") (pre := [(0, 11, 14, 21)]) (suf := []) (x := (0, 11, 18, 23)) (k0 := 4) (lv' := [(0, _), (1, _), (2, _), (3, _)]) rfl (pas1 ⟨by decide +kernel, _, w_396, .tail _ (.tail _ (.tail _ (.tail _ (.tail _ (.head _)))))⟩) (by decide +kernel) (by decide +kernel) w_397 v_378 dL_pair_18 (by decide +kernel) rfl ?_
    refine sw_iconst (pc' := 21) (v := 2) rfl dL_pair_20 (by decide +kernel) ?_
    refine sw_ret (v := some _) ⟨dL_pair_21, _, rfl, rfl⟩ ?_
    exact lp_x pe (tc_2 sSA) pR pF hO hn (Nat.le_refl _)
  refine sw_i2l (pc' := 8) rfl dL_pair_7 ?_
  refine sw_putN (ci := 5) (k := 0) (pc' := 11) rfl dL_pair_8 (by decide +kernel) (by decide +kernel) v_347 rfl ((pF 158 (by omega) (by omega)).trans hO) (by show 100 ≤ _; omega) (Nat.le_of_ble_eq_true rfl) rfl rfl ?_
  refine sw_nm (fun g1 eg1 => ?_)
  have zg1 := (congrFun eg1 158).trans (up_s (h := p) (i := 158))
  refine sw_goto (tgt := 22) dL_pair_11 (by decide +kernel) ?_
  refine sw_iconst (pc' := 23) (v := 0) rfl dL_pair_22 (by decide +kernel) ?_
  refine sw_ret (v := some _) ⟨dL_pair_23, _, rfl, rfl⟩ ?_
  exact lp_v pe pR pF zg1 rfl (fun i h1 => (congrFun eg1 i).trans ((up_n h1).trans (rfl)))
theorem mm_IS_I : sI ∈ [sI, sS] := .head _
theorem mm_IS_S : sS ∈ [sI, sS] := .tail _ (.head _)
theorem ox_pour {σ : CS} {a x : Int32} : OX [sI, sS] (opPour σ a x) := by
  unfold opPour
  repeat' first
    | with_reducible exact ox_i
    | with_reducible exact ox_I mm_IS_I
    | with_reducible exact ox_S mm_IS_S
    | with_reducible refine ox_Sh mm_IS_I (fun _ => ?_)
    | with_reducible refine ox_Wk mm_IS_I (fun _ => ?_)
    | with_reducible refine ox_Rw mm_IS_I (fun _ => ?_)
    | with_reducible refine ox_Li mm_IS_I (fun _ => ?_)
    | with_reducible refine ox_if ?_ ?_
    | exact ox_i
    | exact ox_I mm_IS_I
    | exact ox_S mm_IS_S
    | refine ox_Sh mm_IS_I (fun _ => ?_)
    | refine ox_Wk mm_IS_I (fun _ => ?_)
    | refine ox_Rw mm_IS_I (fun _ => ?_)
    | refine ox_Li mm_IS_I (fun _ => ?_)
    | refine ox_if ?_ ?_
    | split
theorem L_pour {h : AH} {d bc bs n N : Nat} {σ : CS} {a x : Int32} {w : Int64} {s : Value} (hR : RC h σ) (hT : TXT h) (hV : IV σ N) (hN : N < 2 ^ 31) (hO : h 158 = .inr (5, [.long w, s])) (hn : 159 ≤ n) (hd : 12 ≤ d) (h1 : 60 ≤ bc) (h2 : 400 ≤ bs) : SM SR0 ML_pour d bc bs [.ref 100, .int a, .int x, .ref 158] h n (LPo h n (tc sI sS) (opPour σ a x)) := by
  refine sm_ofH pn_OverwalksLaw (by decide +kernel) (Nat.le_of_ble_eq_true rfl) ?_
  refine sw_aload_n (pc' := 1) rfl dL_pour_0 rfl ?_
  refine sw_aload_n (pc' := 2) rfl dL_pour_1 rfl ?_
  refine sw_iload_n (pc' := 3) rfl dL_pour_2 rfl ?_
  refine sw_iload_n (pc' := 4) rfl dL_pour_3 rfl ?_
  refine sw_V (M' := MX3_pour) (d' := d - 1) (bc' := 20) (bs' := 200) (ci := 4) (as := [_, _]) dL_pour_4 w_520 ok_X3_pour (m_pour hR (by omega) (Nat.le_refl _) (Nat.le_refl _)) hR.1 rfl (by omega) (Nat.le_of_ble_eq_true rfl) (by omega) (by omega) (cp_e ox_pour (all2 (fun p pe pR pF => ?_) (fun p pe pR pF => ?_))) (cp_n ox_pour (fun p v pe pR pF => ?_))
  · refine swx_catchW (E := "java/lang/IndexOutOfBoundsException") (pre := []) (suf := [(0, 11, 18, 23)]) (x := (0, 11, 14, 19)) (k0 := 4) (lv' := [(0, _), (1, _), (2, _), (3, _)]) rfl (pas0) (by decide +kernel) (by decide +kernel) w_395 v_325 dL_pour_14 (by decide +kernel) rfl ?_
    refine sw_iconst (pc' := 17) (v := 1) rfl dL_pour_16 (by decide +kernel) ?_
    refine sw_ret (v := some _) ⟨dL_pour_17, _, rfl, rfl⟩ ?_
    exact lp_x pe tc_1 pR pF hO hn (Nat.le_refl _)
  · refine swx_catchW (E := "java/lang/IllegalStateException") (pre := [(0, 11, 14, 19)]) (suf := []) (x := (0, 11, 18, 23)) (k0 := 4) (lv' := [(0, _), (1, _), (2, _), (3, _)]) rfl (pas1 ⟨by decide +kernel, _, w_395, .tail _ (.tail _ (.tail _ (.tail _ (.head _))))⟩) (by decide +kernel) (by decide +kernel) w_397 v_378 dL_pour_18 (by decide +kernel) rfl ?_
    refine sw_iconst (pc' := 21) (v := 2) rfl dL_pour_20 (by decide +kernel) ?_
    refine sw_ret (v := some _) ⟨dL_pour_21, _, rfl, rfl⟩ ?_
    exact lp_x pe (tc_2 sSI) pR pF hO hn (Nat.le_refl _)
  refine sw_i2l (pc' := 8) rfl dL_pour_7 ?_
  refine sw_putN (ci := 5) (k := 0) (pc' := 11) rfl dL_pour_8 (by decide +kernel) (by decide +kernel) v_347 rfl ((pF 158 (by omega) (by omega)).trans hO) (by show 100 ≤ _; omega) (Nat.le_of_ble_eq_true rfl) rfl rfl ?_
  refine sw_nm (fun g1 eg1 => ?_)
  have zg1 := (congrFun eg1 158).trans (up_s (h := p) (i := 158))
  refine sw_goto (tgt := 22) dL_pour_11 (by decide +kernel) ?_
  refine sw_iconst (pc' := 23) (v := 0) rfl dL_pour_22 (by decide +kernel) ?_
  refine sw_ret (v := some _) ⟨dL_pour_23, _, rfl, rfl⟩ ?_
  exact lp_v pe pR pF zg1 rfl (fun i h1 => (congrFun eg1 i).trans ((up_n h1).trans (rfl)))
theorem ox_change {σ : CS} {a x y : Int32} : OX [sI, sA] (opChange σ a x y) := by
  unfold opChange
  repeat' first
    | with_reducible exact ox_i
    | with_reducible exact ox_I mm_IA_I
    | with_reducible exact ox_A mm_IA_A
    | with_reducible refine ox_Sh mm_IA_I (fun _ => ?_)
    | with_reducible refine ox_Wk mm_IA_I (fun _ => ?_)
    | with_reducible refine ox_Rw mm_IA_I (fun _ => ?_)
    | with_reducible refine ox_Li mm_IA_I (fun _ => ?_)
    | with_reducible refine ox_if ?_ ?_
    | exact ox_i
    | exact ox_I mm_IA_I
    | exact ox_A mm_IA_A
    | refine ox_Sh mm_IA_I (fun _ => ?_)
    | refine ox_Wk mm_IA_I (fun _ => ?_)
    | refine ox_Rw mm_IA_I (fun _ => ?_)
    | refine ox_Li mm_IA_I (fun _ => ?_)
    | refine ox_if ?_ ?_
    | split
theorem L_change {h : AH} {d bc bs n N : Nat} {σ : CS} {a x y : Int32} {w : Int64} {s : Value} (hR : RC h σ) (hT : TXT h) (hV : IV σ N) (hN : N < 2 ^ 31) (hO : h 158 = .inr (5, [.long w, s])) (hn : 159 ≤ n) (hd : 12 ≤ d) (h1 : 60 ≤ bc) (h2 : 400 ≤ bs) : SM SR0 ML_change d bc bs [.ref 100, .int a, .int x, .int y, .ref 158] h n (LPo h n (tc sI sA) (opChange σ a x y)) := by
  refine sm_ofH pn_OverwalksLaw (by decide +kernel) (Nat.le_of_ble_eq_true rfl) ?_
  refine sw_aload (pc' := 2) rfl dL_change_0 rfl ?_
  refine sw_aload_n (pc' := 3) rfl dL_change_2 rfl ?_
  refine sw_iload_n (pc' := 4) rfl dL_change_3 rfl ?_
  refine sw_iload_n (pc' := 5) rfl dL_change_4 rfl ?_
  refine sw_iload_n (pc' := 6) rfl dL_change_5 rfl ?_
  refine sw_V (M' := MX3_change) (d' := d - 1) (bc' := 20) (bs' := 200) (ci := 4) (as := [_, _, _]) dL_change_6 w_537 ok_X3_change (m_change hR (by omega) (Nat.le_refl _) (Nat.le_refl _)) hR.1 rfl (by omega) (Nat.le_of_ble_eq_true rfl) (by omega) (by omega) (cp_e ox_change (all2 (fun p pe pR pF => ?_) (fun p pe pR pF => ?_))) (cp_n ox_change (fun p v pe pR pF => ?_))
  · refine swx_catchW (E := "java/lang/IndexOutOfBoundsException") (pre := []) (suf := [(0, 13, 20, 21)]) (x := (0, 13, 16, 19)) (k0 := 5) (lv' := [(0, _), (1, _), (2, _), (3, _), (4, _)]) rfl (pas0) (by decide +kernel) (by decide +kernel) w_395 v_325 dL_change_16 (by decide +kernel) rfl ?_
    refine sw_iconst (pc' := 19) (v := 1) rfl dL_change_18 (by decide +kernel) ?_
    refine sw_ret (v := some _) ⟨dL_change_19, _, rfl, rfl⟩ ?_
    exact lp_x pe tc_1 pR pF hO hn (Nat.le_refl _)
  · refine swx_catchW (E := "java/lang/IllegalArgumentException") (pre := [(0, 13, 16, 19)]) (suf := []) (x := (0, 13, 20, 21)) (k0 := 5) (lv' := [(0, _), (1, _), (2, _), (3, _), (4, _)]) rfl (pas1 ⟨by decide +kernel, _, w_395, .tail _ (.tail _ (.head _))⟩) (by decide +kernel) (by decide +kernel) w_396 v_249 dL_change_20 (by decide +kernel) rfl ?_
    refine sw_iconst (pc' := 23) (v := 2) rfl dL_change_22 (by decide +kernel) ?_
    refine sw_ret (v := some _) ⟨dL_change_23, _, rfl, rfl⟩ ?_
    exact lp_x pe (tc_2 sAI) pR pF hO hn (Nat.le_refl _)
  refine sw_i2l (pc' := 10) rfl dL_change_9 ?_
  refine sw_putN (ci := 5) (k := 0) (pc' := 13) rfl dL_change_10 (by decide +kernel) (by decide +kernel) v_347 rfl ((pF 158 (by omega) (by omega)).trans hO) (by show 100 ≤ _; omega) (Nat.le_of_ble_eq_true rfl) rfl rfl ?_
  refine sw_nm (fun g1 eg1 => ?_)
  have zg1 := (congrFun eg1 158).trans (up_s (h := p) (i := 158))
  refine sw_goto (tgt := 24) dL_change_13 (by decide +kernel) ?_
  refine sw_iconst (pc' := 25) (v := 0) rfl dL_change_24 (by decide +kernel) ?_
  refine sw_ret (v := some _) ⟨dL_change_25, _, rfl, rfl⟩ ?_
  exact lp_v pe pR pF zg1 rfl (fun i h1 => (congrFun eg1 i).trans ((up_n h1).trans (rfl)))
theorem ox_insert {σ : CS} {a x y : Int32} : OX [sI, sA, sS] (opInsert σ a x y) := by
  unfold opInsert
  repeat' first
    | with_reducible exact ox_i
    | with_reducible exact ox_I mm_IAS_I
    | with_reducible exact ox_A mm_IAS_A
    | with_reducible exact ox_S mm_IAS_S
    | with_reducible refine ox_Sh mm_IAS_I (fun _ => ?_)
    | with_reducible refine ox_Wk mm_IAS_I (fun _ => ?_)
    | with_reducible refine ox_Rw mm_IAS_I (fun _ => ?_)
    | with_reducible refine ox_Li mm_IAS_I (fun _ => ?_)
    | with_reducible refine ox_if ?_ ?_
    | exact ox_i
    | exact ox_I mm_IAS_I
    | exact ox_A mm_IAS_A
    | exact ox_S mm_IAS_S
    | refine ox_Sh mm_IAS_I (fun _ => ?_)
    | refine ox_Wk mm_IAS_I (fun _ => ?_)
    | refine ox_Rw mm_IAS_I (fun _ => ?_)
    | refine ox_Li mm_IAS_I (fun _ => ?_)
    | refine ox_if ?_ ?_
    | split
theorem L_insert {h : AH} {d bc bs n N : Nat} {σ : CS} {a x y : Int32} {w : Int64} {s : Value} (hR : RC h σ) (hT : TXT h) (hV : IV σ N) (hN : N < 2 ^ 31) (hO : h 158 = .inr (5, [.long w, s])) (hn : 159 ≤ n) (hd : 12 ≤ d) (h1 : 60 ≤ bc) (h2 : 400 ≤ bs) : SM SR0 ML_insert d bc bs [.ref 100, .int a, .int x, .int y, .ref 158] h n (LPo h n (tc sI sA) (opInsert σ a x y)) := by
  refine sm_ofH pn_OverwalksLaw (by decide +kernel) (Nat.le_of_ble_eq_true rfl) ?_
  refine sw_aload (pc' := 2) rfl dL_insert_0 rfl ?_
  refine sw_aload_n (pc' := 3) rfl dL_insert_2 rfl ?_
  refine sw_iload_n (pc' := 4) rfl dL_insert_3 rfl ?_
  refine sw_iload_n (pc' := 5) rfl dL_insert_4 rfl ?_
  refine sw_iload_n (pc' := 6) rfl dL_insert_5 rfl ?_
  refine sw_V (M' := MX3_insert) (d' := d - 1) (bc' := 20) (bs' := 200) (ci := 4) (as := [_, _, _]) dL_insert_6 w_553 ok_X3_insert (m_insert hR (by omega) (Nat.le_refl _) (Nat.le_refl _)) hR.1 rfl (by omega) (Nat.le_of_ble_eq_true rfl) (by omega) (by omega) (cp_e ox_insert (all3 (fun p pe pR pF => ?_) (fun p pe pR pF => ?_) (fun p pe pR pF => ?_))) (cp_n ox_insert (fun p v pe pR pF => ?_))
  · refine swx_catchW (E := "java/lang/IndexOutOfBoundsException") (pre := []) (suf := [(0, 13, 20, 21), (0, 13, 24, 23)]) (x := (0, 13, 16, 19)) (k0 := 5) (lv' := [(0, _), (1, _), (2, _), (3, _), (4, _)]) rfl (pas0) (by decide +kernel) (by decide +kernel) w_395 v_325 dL_insert_16 (by decide +kernel) rfl ?_
    refine sw_iconst (pc' := 19) (v := 1) rfl dL_insert_18 (by decide +kernel) ?_
    refine sw_ret (v := some _) ⟨dL_insert_19, _, rfl, rfl⟩ ?_
    exact lp_x pe tc_1 pR pF hO hn (Nat.le_refl _)
  · refine swx_catchW (E := "java/lang/IllegalArgumentException") (pre := [(0, 13, 16, 19)]) (suf := [(0, 13, 24, 23)]) (x := (0, 13, 20, 21)) (k0 := 5) (lv' := [(0, _), (1, _), (2, _), (3, _), (4, _)]) rfl (pas1 ⟨by decide +kernel, _, w_395, .tail _ (.tail _ (.head _))⟩) (by decide +kernel) (by decide +kernel) w_396 v_249 dL_insert_20 (by decide +kernel) rfl ?_
    refine sw_iconst (pc' := 23) (v := 2) rfl dL_insert_22 (by decide +kernel) ?_
    refine sw_ret (v := some _) ⟨dL_insert_23, _, rfl, rfl⟩ ?_
    exact lp_x pe (tc_2 sAI) pR pF hO hn (Nat.le_refl _)
  · refine swx_catchW (E := "java/lang/IllegalStateException") (pre := [(0, 13, 16, 19), (0, 13, 20, 21)]) (suf := []) (x := (0, 13, 24, 23)) (k0 := 5) (lv' := [(0, _), (1, _), (2, _), (3, _), (4, _)]) rfl (pas2 ⟨by decide +kernel, _, w_395, .tail _ (.tail _ (.tail _ (.tail _ (.head _))))⟩ ⟨by decide +kernel, _, w_396, .tail _ (.tail _ (.tail _ (.tail _ (.tail _ (.head _)))))⟩) (by decide +kernel) (by decide +kernel) w_397 v_378 dL_insert_24 (by decide +kernel) rfl ?_
    refine sw_iconst (pc' := 27) (v := 3) rfl dL_insert_26 (by decide +kernel) ?_
    refine sw_ret (v := some _) ⟨dL_insert_27, _, rfl, rfl⟩ ?_
    exact lp_x pe (tc_3 sSI sSA) pR pF hO hn (Nat.le_refl _)
  refine sw_i2l (pc' := 10) rfl dL_insert_9 ?_
  refine sw_putN (ci := 5) (k := 0) (pc' := 13) rfl dL_insert_10 (by decide +kernel) (by decide +kernel) v_347 rfl ((pF 158 (by omega) (by omega)).trans hO) (by show 100 ≤ _; omega) (Nat.le_of_ble_eq_true rfl) rfl rfl ?_
  refine sw_nm (fun g1 eg1 => ?_)
  have zg1 := (congrFun eg1 158).trans (up_s (h := p) (i := 158))
  refine sw_goto (tgt := 28) dL_insert_13 (by decide +kernel) ?_
  refine sw_iconst (pc' := 29) (v := 0) rfl dL_insert_28 (by decide +kernel) ?_
  refine sw_ret (v := some _) ⟨dL_insert_29, _, rfl, rfl⟩ ?_
  exact lp_v pe pR pF zg1 rfl (fun i h1 => (congrFun eg1 i).trans ((up_n h1).trans (rfl)))
theorem ox_remove {σ : CS} {a x : Int32} : OX [sI] (opRemove σ a x) := by
  unfold opRemove
  repeat' first
    | with_reducible exact ox_i
    | with_reducible exact ox_I mm_I_I
    | with_reducible refine ox_Sh mm_I_I (fun _ => ?_)
    | with_reducible refine ox_Wk mm_I_I (fun _ => ?_)
    | with_reducible refine ox_Rw mm_I_I (fun _ => ?_)
    | with_reducible refine ox_Li mm_I_I (fun _ => ?_)
    | with_reducible refine ox_if ?_ ?_
    | exact ox_i
    | exact ox_I mm_I_I
    | refine ox_Sh mm_I_I (fun _ => ?_)
    | refine ox_Wk mm_I_I (fun _ => ?_)
    | refine ox_Rw mm_I_I (fun _ => ?_)
    | refine ox_Li mm_I_I (fun _ => ?_)
    | refine ox_if ?_ ?_
    | split
theorem L_remove {h : AH} {d bc bs n N : Nat} {σ : CS} {a x : Int32} {w : Int64} {s : Value} (hR : RC h σ) (hT : TXT h) (hV : IV σ N) (hN : N < 2 ^ 31) (hO : h 158 = .inr (5, [.long w, s])) (hn : 159 ≤ n) (hd : 12 ≤ d) (h1 : 60 ≤ bc) (h2 : 400 ≤ bs) : SM SR0 ML_remove d bc bs [.ref 100, .int a, .int x, .ref 158] h n (LPo h n (tc sI sI) (opRemove σ a x)) := by
  refine sm_ofH pn_OverwalksLaw (by decide +kernel) (Nat.le_of_ble_eq_true rfl) ?_
  refine sw_aload_n (pc' := 1) rfl dL_remove_0 rfl ?_
  refine sw_aload_n (pc' := 2) rfl dL_remove_1 rfl ?_
  refine sw_iload_n (pc' := 3) rfl dL_remove_2 rfl ?_
  refine sw_iload_n (pc' := 4) rfl dL_remove_3 rfl ?_
  refine sw_V (M' := MX3_remove) (d' := d - 1) (bc' := 20) (bs' := 200) (ci := 4) (as := [_, _]) dL_remove_4 w_560 ok_X3_remove (m_remove hR (by omega) (Nat.le_refl _) (Nat.le_refl _)) hR.1 rfl (by omega) (Nat.le_of_ble_eq_true rfl) (by omega) (by omega) (cp_e ox_remove (all1 (fun p pe pR pF => ?_))) (cp_n ox_remove (fun p v pe pR pF => ?_))
  · refine swx_catchW (E := "java/lang/IndexOutOfBoundsException") (pre := []) (suf := []) (x := (0, 11, 14, 19)) (k0 := 4) (lv' := [(0, _), (1, _), (2, _), (3, _)]) rfl (pas0) (by decide +kernel) (by decide +kernel) w_395 v_325 dL_remove_14 (by decide +kernel) rfl ?_
    refine sw_iconst (pc' := 17) (v := 1) rfl dL_remove_16 (by decide +kernel) ?_
    refine sw_ret (v := some _) ⟨dL_remove_17, _, rfl, rfl⟩ ?_
    exact lp_x pe tc_1 pR pF hO hn (Nat.le_refl _)
  refine sw_i2l (pc' := 8) rfl dL_remove_7 ?_
  refine sw_putN (ci := 5) (k := 0) (pc' := 11) rfl dL_remove_8 (by decide +kernel) (by decide +kernel) v_347 rfl ((pF 158 (by omega) (by omega)).trans hO) (by show 100 ≤ _; omega) (Nat.le_of_ble_eq_true rfl) rfl rfl ?_
  refine sw_nm (fun g1 eg1 => ?_)
  have zg1 := (congrFun eg1 158).trans (up_s (h := p) (i := 158))
  refine sw_goto (tgt := 18) dL_remove_11 (by decide +kernel) ?_
  refine sw_iconst (pc' := 19) (v := 0) rfl dL_remove_18 (by decide +kernel) ?_
  refine sw_ret (v := some _) ⟨dL_remove_19, _, rfl, rfl⟩ ?_
  exact lp_v pe pR pF zg1 rfl (fun i h1 => (congrFun eg1 i).trans ((up_n h1).trans (rfl)))
theorem ox_turn {σ : CS} {a : Int32} : OX [sI] (opTurn σ a) := by
  unfold opTurn
  repeat' first
    | with_reducible exact ox_i
    | with_reducible exact ox_I mm_I_I
    | with_reducible refine ox_Sh mm_I_I (fun _ => ?_)
    | with_reducible refine ox_Wk mm_I_I (fun _ => ?_)
    | with_reducible refine ox_Rw mm_I_I (fun _ => ?_)
    | with_reducible refine ox_Li mm_I_I (fun _ => ?_)
    | with_reducible refine ox_if ?_ ?_
    | exact ox_i
    | exact ox_I mm_I_I
    | refine ox_Sh mm_I_I (fun _ => ?_)
    | refine ox_Wk mm_I_I (fun _ => ?_)
    | refine ox_Rw mm_I_I (fun _ => ?_)
    | refine ox_Li mm_I_I (fun _ => ?_)
    | refine ox_if ?_ ?_
    | split
theorem L_turn {h : AH} {d bc bs n N : Nat} {σ : CS} {a : Int32} {w : Int64} {s : Value} (hR : RC h σ) (hT : TXT h) (hV : IV σ N) (hN : N < 2 ^ 31) (hO : h 158 = .inr (5, [.long w, s])) (hn : 159 ≤ n) (hd : 12 ≤ d) (h1 : 60 ≤ bc) (h2 : 400 ≤ bs) : SM SR0 ML_turn d bc bs [.ref 100, .int a, .ref 158] h n (LPo h n (tc sI sI) (opTurn σ a)) := by
  refine sm_ofH pn_OverwalksLaw (by decide +kernel) (Nat.le_of_ble_eq_true rfl) ?_
  refine sw_aload_n (pc' := 1) rfl dL_turn_0 rfl ?_
  refine sw_aload_n (pc' := 2) rfl dL_turn_1 rfl ?_
  refine sw_iload_n (pc' := 3) rfl dL_turn_2 rfl ?_
  refine sw_V (M' := MX3_turn) (d' := d - 1) (bc' := 20) (bs' := 200) (ci := 4) (as := [_]) dL_turn_3 w_567 ok_X3_turn (m_turn hR (by omega) (Nat.le_refl _) (Nat.le_refl _)) hR.1 rfl (by omega) (Nat.le_of_ble_eq_true rfl) (by omega) (by omega) (cp_e ox_turn (all1 (fun p pe pR pF => ?_))) (cp_n ox_turn (fun p v pe pR pF => ?_))
  · refine swx_catch (E := "java/lang/IndexOutOfBoundsException") (pre := []) (suf := []) (x := (0, 10, 13, 19)) (k0 := 3) (lv' := [(0, _), (1, _), (2, _)]) rfl (pas0) (by decide +kernel) (by decide +kernel) w_395 v_325 dL_turn_13 (by decide +kernel) rfl ?_
    refine sw_iconst (pc' := 15) (v := 1) rfl dL_turn_14 (by decide +kernel) ?_
    refine sw_ret (v := some _) ⟨dL_turn_15, _, rfl, rfl⟩ ?_
    exact lp_x pe tc_1 pR pF hO hn (Nat.le_refl _)
  refine sw_i2l (pc' := 7) rfl dL_turn_6 ?_
  refine sw_putN (ci := 5) (k := 0) (pc' := 10) rfl dL_turn_7 (by decide +kernel) (by decide +kernel) v_347 rfl ((pF 158 (by omega) (by omega)).trans hO) (by show 100 ≤ _; omega) (Nat.le_of_ble_eq_true rfl) rfl rfl ?_
  refine sw_nm (fun g1 eg1 => ?_)
  have zg1 := (congrFun eg1 158).trans (up_s (h := p) (i := 158))
  refine sw_goto (tgt := 16) dL_turn_10 (by decide +kernel) ?_
  refine sw_iconst (pc' := 17) (v := 0) rfl dL_turn_16 (by decide +kernel) ?_
  refine sw_ret (v := some _) ⟨dL_turn_17, _, rfl, rfl⟩ ?_
  exact lp_v pe pR pF zg1 rfl (fun i h1 => (congrFun eg1 i).trans ((up_n h1).trans (rfl)))
theorem ox_rotate {σ : CS} {a x : Int32} : OX [sI, sA] (opRotate σ a x) := by
  unfold opRotate
  repeat' first
    | with_reducible exact ox_i
    | with_reducible exact ox_I mm_IA_I
    | with_reducible exact ox_A mm_IA_A
    | with_reducible refine ox_Sh mm_IA_I (fun _ => ?_)
    | with_reducible refine ox_Wk mm_IA_I (fun _ => ?_)
    | with_reducible refine ox_Rw mm_IA_I (fun _ => ?_)
    | with_reducible refine ox_Li mm_IA_I (fun _ => ?_)
    | with_reducible refine ox_if ?_ ?_
    | exact ox_i
    | exact ox_I mm_IA_I
    | exact ox_A mm_IA_A
    | refine ox_Sh mm_IA_I (fun _ => ?_)
    | refine ox_Wk mm_IA_I (fun _ => ?_)
    | refine ox_Rw mm_IA_I (fun _ => ?_)
    | refine ox_Li mm_IA_I (fun _ => ?_)
    | refine ox_if ?_ ?_
    | split
theorem L_rotate {h : AH} {d bc bs n N : Nat} {σ : CS} {a x : Int32} {w : Int64} {s : Value} (hR : RC h σ) (hT : TXT h) (hV : IV σ N) (hN : N < 2 ^ 31) (hO : h 158 = .inr (5, [.long w, s])) (hn : 159 ≤ n) (hd : 12 ≤ d) (h1 : 60 ≤ bc) (h2 : 400 ≤ bs) : SM SR0 ML_rotate d bc bs [.ref 100, .int a, .int x, .ref 158] h n (LPo h n (tc sI sA) (opRotate σ a x)) := by
  refine sm_ofH pn_OverwalksLaw (by decide +kernel) (Nat.le_of_ble_eq_true rfl) ?_
  refine sw_aload_n (pc' := 1) rfl dL_rotate_0 rfl ?_
  refine sw_aload_n (pc' := 2) rfl dL_rotate_1 rfl ?_
  refine sw_iload_n (pc' := 3) rfl dL_rotate_2 rfl ?_
  refine sw_iload_n (pc' := 4) rfl dL_rotate_3 rfl ?_
  refine sw_V (M' := MX3_rotate) (d' := d - 1) (bc' := 20) (bs' := 200) (ci := 4) (as := [_, _]) dL_rotate_4 w_579 ok_X3_rotate (m_rotate hR (by omega) (Nat.le_refl _) (Nat.le_refl _)) hR.1 rfl (by omega) (Nat.le_of_ble_eq_true rfl) (by omega) (by omega) (cp_e ox_rotate (all2 (fun p pe pR pF => ?_) (fun p pe pR pF => ?_))) (cp_n ox_rotate (fun p v pe pR pF => ?_))
  · refine swx_catchW (E := "java/lang/IndexOutOfBoundsException") (pre := []) (suf := [(0, 11, 18, 21)]) (x := (0, 11, 14, 19)) (k0 := 4) (lv' := [(0, _), (1, _), (2, _), (3, _)]) rfl (pas0) (by decide +kernel) (by decide +kernel) w_395 v_325 dL_rotate_14 (by decide +kernel) rfl ?_
    refine sw_iconst (pc' := 17) (v := 1) rfl dL_rotate_16 (by decide +kernel) ?_
    refine sw_ret (v := some _) ⟨dL_rotate_17, _, rfl, rfl⟩ ?_
    exact lp_x pe tc_1 pR pF hO hn (Nat.le_refl _)
  · refine swx_catchW (E := "java/lang/IllegalArgumentException") (pre := [(0, 11, 14, 19)]) (suf := []) (x := (0, 11, 18, 21)) (k0 := 4) (lv' := [(0, _), (1, _), (2, _), (3, _)]) rfl (pas1 ⟨by decide +kernel, _, w_395, .tail _ (.tail _ (.head _))⟩) (by decide +kernel) (by decide +kernel) w_396 v_249 dL_rotate_18 (by decide +kernel) rfl ?_
    refine sw_iconst (pc' := 21) (v := 2) rfl dL_rotate_20 (by decide +kernel) ?_
    refine sw_ret (v := some _) ⟨dL_rotate_21, _, rfl, rfl⟩ ?_
    exact lp_x pe (tc_2 sAI) pR pF hO hn (Nat.le_refl _)
  refine sw_i2l (pc' := 8) rfl dL_rotate_7 ?_
  refine sw_putN (ci := 5) (k := 0) (pc' := 11) rfl dL_rotate_8 (by decide +kernel) (by decide +kernel) v_347 rfl ((pF 158 (by omega) (by omega)).trans hO) (by show 100 ≤ _; omega) (Nat.le_of_ble_eq_true rfl) rfl rfl ?_
  refine sw_nm (fun g1 eg1 => ?_)
  have zg1 := (congrFun eg1 158).trans (up_s (h := p) (i := 158))
  refine sw_goto (tgt := 22) dL_rotate_11 (by decide +kernel) ?_
  refine sw_iconst (pc' := 23) (v := 0) rfl dL_rotate_22 (by decide +kernel) ?_
  refine sw_ret (v := some _) ⟨dL_rotate_23, _, rfl, rfl⟩ ?_
  exact lp_v pe pR pF zg1 rfl (fun i h1 => (congrFun eg1 i).trans ((up_n h1).trans (rfl)))
theorem ox_swap {σ : CS} {a x y : Int32} : OX [sI] (opSwap σ a x y) := by
  unfold opSwap
  repeat' first
    | with_reducible exact ox_i
    | with_reducible exact ox_I mm_I_I
    | with_reducible refine ox_Sh mm_I_I (fun _ => ?_)
    | with_reducible refine ox_Wk mm_I_I (fun _ => ?_)
    | with_reducible refine ox_Rw mm_I_I (fun _ => ?_)
    | with_reducible refine ox_Li mm_I_I (fun _ => ?_)
    | with_reducible refine ox_if ?_ ?_
    | exact ox_i
    | exact ox_I mm_I_I
    | refine ox_Sh mm_I_I (fun _ => ?_)
    | refine ox_Wk mm_I_I (fun _ => ?_)
    | refine ox_Rw mm_I_I (fun _ => ?_)
    | refine ox_Li mm_I_I (fun _ => ?_)
    | refine ox_if ?_ ?_
    | split
theorem L_swap {h : AH} {d bc bs n N : Nat} {σ : CS} {a x y : Int32} {w : Int64} {s : Value} (hR : RC h σ) (hT : TXT h) (hV : IV σ N) (hN : N < 2 ^ 31) (hO : h 158 = .inr (5, [.long w, s])) (hn : 159 ≤ n) (hd : 12 ≤ d) (h1 : 60 ≤ bc) (h2 : 400 ≤ bs) : SM SR0 ML_swap d bc bs [.ref 100, .int a, .int x, .int y, .ref 158] h n (LPo h n (tc sI sI) (opSwap σ a x y)) := by
  refine sm_ofH pn_OverwalksLaw (by decide +kernel) (Nat.le_of_ble_eq_true rfl) ?_
  refine sw_aload (pc' := 2) rfl dL_swap_0 rfl ?_
  refine sw_aload_n (pc' := 3) rfl dL_swap_2 rfl ?_
  refine sw_iload_n (pc' := 4) rfl dL_swap_3 rfl ?_
  refine sw_iload_n (pc' := 5) rfl dL_swap_4 rfl ?_
  refine sw_iload_n (pc' := 6) rfl dL_swap_5 rfl ?_
  refine sw_V (M' := MX3_swap) (d' := d - 1) (bc' := 20) (bs' := 200) (ci := 4) (as := [_, _, _]) dL_swap_6 w_595 ok_X3_swap (m_swap hR (by omega) (Nat.le_refl _) (Nat.le_refl _)) hR.1 rfl (by omega) (Nat.le_of_ble_eq_true rfl) (by omega) (by omega) (cp_e ox_swap (all1 (fun p pe pR pF => ?_))) (cp_n ox_swap (fun p v pe pR pF => ?_))
  · refine swx_catchW (E := "java/lang/IndexOutOfBoundsException") (pre := []) (suf := []) (x := (0, 13, 16, 19)) (k0 := 5) (lv' := [(0, _), (1, _), (2, _), (3, _), (4, _)]) rfl (pas0) (by decide +kernel) (by decide +kernel) w_395 v_325 dL_swap_16 (by decide +kernel) rfl ?_
    refine sw_iconst (pc' := 19) (v := 1) rfl dL_swap_18 (by decide +kernel) ?_
    refine sw_ret (v := some _) ⟨dL_swap_19, _, rfl, rfl⟩ ?_
    exact lp_x pe tc_1 pR pF hO hn (Nat.le_refl _)
  refine sw_i2l (pc' := 10) rfl dL_swap_9 ?_
  refine sw_putN (ci := 5) (k := 0) (pc' := 13) rfl dL_swap_10 (by decide +kernel) (by decide +kernel) v_347 rfl ((pF 158 (by omega) (by omega)).trans hO) (by show 100 ≤ _; omega) (Nat.le_of_ble_eq_true rfl) rfl rfl ?_
  refine sw_nm (fun g1 eg1 => ?_)
  have zg1 := (congrFun eg1 158).trans (up_s (h := p) (i := 158))
  refine sw_goto (tgt := 20) dL_swap_13 (by decide +kernel) ?_
  refine sw_iconst (pc' := 21) (v := 0) rfl dL_swap_20 (by decide +kernel) ?_
  refine sw_ret (v := some _) ⟨dL_swap_21, _, rfl, rfl⟩ ?_
  exact lp_v pe pR pF zg1 rfl (fun i h1 => (congrFun eg1 i).trans ((up_n h1).trans (rfl)))
theorem ox_fill {σ : CS} {a x : Int32} : OX [sI, sA] (opFill σ a x) := by
  unfold opFill
  repeat' first
    | with_reducible exact ox_i
    | with_reducible exact ox_I mm_IA_I
    | with_reducible exact ox_A mm_IA_A
    | with_reducible refine ox_Sh mm_IA_I (fun _ => ?_)
    | with_reducible refine ox_Wk mm_IA_I (fun _ => ?_)
    | with_reducible refine ox_Rw mm_IA_I (fun _ => ?_)
    | with_reducible refine ox_Li mm_IA_I (fun _ => ?_)
    | with_reducible refine ox_if ?_ ?_
    | exact ox_i
    | exact ox_I mm_IA_I
    | exact ox_A mm_IA_A
    | refine ox_Sh mm_IA_I (fun _ => ?_)
    | refine ox_Wk mm_IA_I (fun _ => ?_)
    | refine ox_Rw mm_IA_I (fun _ => ?_)
    | refine ox_Li mm_IA_I (fun _ => ?_)
    | refine ox_if ?_ ?_
    | split
theorem L_fill {h : AH} {d bc bs n N : Nat} {σ : CS} {a x : Int32} {w : Int64} {s : Value} (hR : RC h σ) (hT : TXT h) (hV : IV σ N) (hN : N < 2 ^ 31) (hO : h 158 = .inr (5, [.long w, s])) (hn : 159 ≤ n) (hd : 12 ≤ d) (h1 : 60 ≤ bc) (h2 : 400 ≤ bs) : SM SR0 ML_fill d bc bs [.ref 100, .int a, .int x, .ref 158] h n (LPo h n (tc sI sA) (opFill σ a x)) := by
  refine sm_ofH pn_OverwalksLaw (by decide +kernel) (Nat.le_of_ble_eq_true rfl) ?_
  refine sw_aload_n (pc' := 1) rfl dL_fill_0 rfl ?_
  refine sw_aload_n (pc' := 2) rfl dL_fill_1 rfl ?_
  refine sw_iload_n (pc' := 3) rfl dL_fill_2 rfl ?_
  refine sw_iload_n (pc' := 4) rfl dL_fill_3 rfl ?_
  refine sw_V (M' := MX3_fill) (d' := d - 1) (bc' := 20) (bs' := 200) (ci := 4) (as := [_, _]) dL_fill_4 w_602 ok_X3_fill (m_fill hR (by omega) (Nat.le_refl _) (Nat.le_refl _)) hR.1 rfl (by omega) (Nat.le_of_ble_eq_true rfl) (by omega) (by omega) (cp_e ox_fill (all2 (fun p pe pR pF => ?_) (fun p pe pR pF => ?_))) (cp_n ox_fill (fun p v pe pR pF => ?_))
  · refine swx_catchW (E := "java/lang/IndexOutOfBoundsException") (pre := []) (suf := [(0, 11, 18, 21)]) (x := (0, 11, 14, 19)) (k0 := 4) (lv' := [(0, _), (1, _), (2, _), (3, _)]) rfl (pas0) (by decide +kernel) (by decide +kernel) w_395 v_325 dL_fill_14 (by decide +kernel) rfl ?_
    refine sw_iconst (pc' := 17) (v := 1) rfl dL_fill_16 (by decide +kernel) ?_
    refine sw_ret (v := some _) ⟨dL_fill_17, _, rfl, rfl⟩ ?_
    exact lp_x pe tc_1 pR pF hO hn (Nat.le_refl _)
  · refine swx_catchW (E := "java/lang/IllegalArgumentException") (pre := [(0, 11, 14, 19)]) (suf := []) (x := (0, 11, 18, 21)) (k0 := 4) (lv' := [(0, _), (1, _), (2, _), (3, _)]) rfl (pas1 ⟨by decide +kernel, _, w_395, .tail _ (.tail _ (.head _))⟩) (by decide +kernel) (by decide +kernel) w_396 v_249 dL_fill_18 (by decide +kernel) rfl ?_
    refine sw_iconst (pc' := 21) (v := 2) rfl dL_fill_20 (by decide +kernel) ?_
    refine sw_ret (v := some _) ⟨dL_fill_21, _, rfl, rfl⟩ ?_
    exact lp_x pe (tc_2 sAI) pR pF hO hn (Nat.le_refl _)
  refine sw_i2l (pc' := 8) rfl dL_fill_7 ?_
  refine sw_putN (ci := 5) (k := 0) (pc' := 11) rfl dL_fill_8 (by decide +kernel) (by decide +kernel) v_347 rfl ((pF 158 (by omega) (by omega)).trans hO) (by show 100 ≤ _; omega) (Nat.le_of_ble_eq_true rfl) rfl rfl ?_
  refine sw_nm (fun g1 eg1 => ?_)
  have zg1 := (congrFun eg1 158).trans (up_s (h := p) (i := 158))
  refine sw_goto (tgt := 22) dL_fill_11 (by decide +kernel) ?_
  refine sw_iconst (pc' := 23) (v := 0) rfl dL_fill_22 (by decide +kernel) ?_
  refine sw_ret (v := some _) ⟨dL_fill_23, _, rfl, rfl⟩ ?_
  exact lp_v pe pR pF zg1 rfl (fun i h1 => (congrFun eg1 i).trans ((up_n h1).trans (rfl)))
theorem ox_replace {σ : CS} {a x y : Int32} : OX [sI, sA] (opReplace σ a x y) := by
  unfold opReplace
  repeat' first
    | with_reducible exact ox_i
    | with_reducible exact ox_I mm_IA_I
    | with_reducible exact ox_A mm_IA_A
    | with_reducible refine ox_Sh mm_IA_I (fun _ => ?_)
    | with_reducible refine ox_Wk mm_IA_I (fun _ => ?_)
    | with_reducible refine ox_Rw mm_IA_I (fun _ => ?_)
    | with_reducible refine ox_Li mm_IA_I (fun _ => ?_)
    | with_reducible refine ox_if ?_ ?_
    | exact ox_i
    | exact ox_I mm_IA_I
    | exact ox_A mm_IA_A
    | refine ox_Sh mm_IA_I (fun _ => ?_)
    | refine ox_Wk mm_IA_I (fun _ => ?_)
    | refine ox_Rw mm_IA_I (fun _ => ?_)
    | refine ox_Li mm_IA_I (fun _ => ?_)
    | refine ox_if ?_ ?_
    | split
theorem L_replace {h : AH} {d bc bs n N : Nat} {σ : CS} {a x y : Int32} {w : Int64} {s : Value} (hR : RC h σ) (hT : TXT h) (hV : IV σ N) (hN : N < 2 ^ 31) (hO : h 158 = .inr (5, [.long w, s])) (hn : 159 ≤ n) (hd : 12 ≤ d) (h1 : 60 ≤ bc) (h2 : 400 ≤ bs) : SM SR0 ML_replace d bc bs [.ref 100, .int a, .int x, .int y, .ref 158] h n (LPo h n (tc sI sA) (opReplace σ a x y)) := by
  refine sm_ofH pn_OverwalksLaw (by decide +kernel) (Nat.le_of_ble_eq_true rfl) ?_
  refine sw_aload (pc' := 2) rfl dL_replace_0 rfl ?_
  refine sw_aload_n (pc' := 3) rfl dL_replace_2 rfl ?_
  refine sw_iload_n (pc' := 4) rfl dL_replace_3 rfl ?_
  refine sw_iload_n (pc' := 5) rfl dL_replace_4 rfl ?_
  refine sw_iload_n (pc' := 6) rfl dL_replace_5 rfl ?_
  refine sw_V (M' := MX3_replace) (d' := d - 1) (bc' := 20) (bs' := 200) (ci := 4) (as := [_, _, _]) dL_replace_6 w_609 ok_X3_replace (m_replace hR (by omega) (Nat.le_refl _) (Nat.le_refl _)) hR.1 rfl (by omega) (Nat.le_of_ble_eq_true rfl) (by omega) (by omega) (cp_e ox_replace (all2 (fun p pe pR pF => ?_) (fun p pe pR pF => ?_))) (cp_n ox_replace (fun p v pe pR pF => ?_))
  · refine swx_catchW (E := "java/lang/IndexOutOfBoundsException") (pre := []) (suf := [(0, 13, 20, 21)]) (x := (0, 13, 16, 19)) (k0 := 5) (lv' := [(0, _), (1, _), (2, _), (3, _), (4, _)]) rfl (pas0) (by decide +kernel) (by decide +kernel) w_395 v_325 dL_replace_16 (by decide +kernel) rfl ?_
    refine sw_iconst (pc' := 19) (v := 1) rfl dL_replace_18 (by decide +kernel) ?_
    refine sw_ret (v := some _) ⟨dL_replace_19, _, rfl, rfl⟩ ?_
    exact lp_x pe tc_1 pR pF hO hn (Nat.le_refl _)
  · refine swx_catchW (E := "java/lang/IllegalArgumentException") (pre := [(0, 13, 16, 19)]) (suf := []) (x := (0, 13, 20, 21)) (k0 := 5) (lv' := [(0, _), (1, _), (2, _), (3, _), (4, _)]) rfl (pas1 ⟨by decide +kernel, _, w_395, .tail _ (.tail _ (.head _))⟩) (by decide +kernel) (by decide +kernel) w_396 v_249 dL_replace_20 (by decide +kernel) rfl ?_
    refine sw_iconst (pc' := 23) (v := 2) rfl dL_replace_22 (by decide +kernel) ?_
    refine sw_ret (v := some _) ⟨dL_replace_23, _, rfl, rfl⟩ ?_
    exact lp_x pe (tc_2 sAI) pR pF hO hn (Nat.le_refl _)
  refine sw_i2l (pc' := 10) rfl dL_replace_9 ?_
  refine sw_putN (ci := 5) (k := 0) (pc' := 13) rfl dL_replace_10 (by decide +kernel) (by decide +kernel) v_347 rfl ((pF 158 (by omega) (by omega)).trans hO) (by show 100 ≤ _; omega) (Nat.le_of_ble_eq_true rfl) rfl rfl ?_
  refine sw_nm (fun g1 eg1 => ?_)
  have zg1 := (congrFun eg1 158).trans (up_s (h := p) (i := 158))
  refine sw_goto (tgt := 24) dL_replace_13 (by decide +kernel) ?_
  refine sw_iconst (pc' := 25) (v := 0) rfl dL_replace_24 (by decide +kernel) ?_
  refine sw_ret (v := some _) ⟨dL_replace_25, _, rfl, rfl⟩ ?_
  exact lp_v pe pR pF zg1 rfl (fun i h1 => (congrFun eg1 i).trans ((up_n h1).trans (rfl)))
theorem ox_copies {σ : CS} {a x y : Int32} : OX [sI, sA, sS] (opCopies σ a x y) := by
  unfold opCopies
  repeat' first
    | with_reducible exact ox_i
    | with_reducible exact ox_I mm_IAS_I
    | with_reducible exact ox_A mm_IAS_A
    | with_reducible exact ox_S mm_IAS_S
    | with_reducible refine ox_Sh mm_IAS_I (fun _ => ?_)
    | with_reducible refine ox_Wk mm_IAS_I (fun _ => ?_)
    | with_reducible refine ox_Rw mm_IAS_I (fun _ => ?_)
    | with_reducible refine ox_Li mm_IAS_I (fun _ => ?_)
    | with_reducible refine ox_if ?_ ?_
    | exact ox_i
    | exact ox_I mm_IAS_I
    | exact ox_A mm_IAS_A
    | exact ox_S mm_IAS_S
    | refine ox_Sh mm_IAS_I (fun _ => ?_)
    | refine ox_Wk mm_IAS_I (fun _ => ?_)
    | refine ox_Rw mm_IAS_I (fun _ => ?_)
    | refine ox_Li mm_IAS_I (fun _ => ?_)
    | refine ox_if ?_ ?_
    | split
theorem L_copies {h : AH} {d bc bs n N : Nat} {σ : CS} {a x y : Int32} {w : Int64} {s : Value} (hR : RC h σ) (hT : TXT h) (hV : IV σ N) (hN : N < 2 ^ 31) (hO : h 158 = .inr (5, [.long w, s])) (hn : 159 ≤ n) (hd : 12 ≤ d) (h1 : 60 ≤ bc) (h2 : 400 ≤ bs) : SM SR0 ML_copies d bc bs [.ref 100, .int a, .int x, .int y, .ref 158] h n (LPo h n (tc sI sA) (opCopies σ a x y)) := by
  refine sm_ofH pn_OverwalksLaw (by decide +kernel) (Nat.le_of_ble_eq_true rfl) ?_
  refine sw_aload (pc' := 2) rfl dL_copies_0 rfl ?_
  refine sw_aload_n (pc' := 3) rfl dL_copies_2 rfl ?_
  refine sw_iload_n (pc' := 4) rfl dL_copies_3 rfl ?_
  refine sw_iload_n (pc' := 5) rfl dL_copies_4 rfl ?_
  refine sw_iload_n (pc' := 6) rfl dL_copies_5 rfl ?_
  refine sw_V (M' := MX3_copies) (d' := d - 1) (bc' := 20) (bs' := 200) (ci := 4) (as := [_, _, _]) dL_copies_6 w_616 ok_X3_copies (m_copies hR (by omega) (Nat.le_refl _) (Nat.le_refl _)) hR.1 rfl (by omega) (Nat.le_of_ble_eq_true rfl) (by omega) (by omega) (cp_e ox_copies (all3 (fun p pe pR pF => ?_) (fun p pe pR pF => ?_) (fun p pe pR pF => ?_))) (cp_n ox_copies (fun p v pe pR pF => ?_))
  · refine swx_catchW (E := "java/lang/IndexOutOfBoundsException") (pre := []) (suf := [(0, 13, 20, 21), (0, 13, 24, 23)]) (x := (0, 13, 16, 19)) (k0 := 5) (lv' := [(0, _), (1, _), (2, _), (3, _), (4, _)]) rfl (pas0) (by decide +kernel) (by decide +kernel) w_395 v_325 dL_copies_16 (by decide +kernel) rfl ?_
    refine sw_iconst (pc' := 19) (v := 1) rfl dL_copies_18 (by decide +kernel) ?_
    refine sw_ret (v := some _) ⟨dL_copies_19, _, rfl, rfl⟩ ?_
    exact lp_x pe tc_1 pR pF hO hn (Nat.le_refl _)
  · refine swx_catchW (E := "java/lang/IllegalArgumentException") (pre := [(0, 13, 16, 19)]) (suf := [(0, 13, 24, 23)]) (x := (0, 13, 20, 21)) (k0 := 5) (lv' := [(0, _), (1, _), (2, _), (3, _), (4, _)]) rfl (pas1 ⟨by decide +kernel, _, w_395, .tail _ (.tail _ (.head _))⟩) (by decide +kernel) (by decide +kernel) w_396 v_249 dL_copies_20 (by decide +kernel) rfl ?_
    refine sw_iconst (pc' := 23) (v := 2) rfl dL_copies_22 (by decide +kernel) ?_
    refine sw_ret (v := some _) ⟨dL_copies_23, _, rfl, rfl⟩ ?_
    exact lp_x pe (tc_2 sAI) pR pF hO hn (Nat.le_refl _)
  · refine swx_catchW (E := "java/lang/IllegalStateException") (pre := [(0, 13, 16, 19), (0, 13, 20, 21)]) (suf := []) (x := (0, 13, 24, 23)) (k0 := 5) (lv' := [(0, _), (1, _), (2, _), (3, _), (4, _)]) rfl (pas2 ⟨by decide +kernel, _, w_395, .tail _ (.tail _ (.tail _ (.tail _ (.head _))))⟩ ⟨by decide +kernel, _, w_396, .tail _ (.tail _ (.tail _ (.tail _ (.tail _ (.head _)))))⟩) (by decide +kernel) (by decide +kernel) w_397 v_378 dL_copies_24 (by decide +kernel) rfl ?_
    refine sw_iconst (pc' := 27) (v := 3) rfl dL_copies_26 (by decide +kernel) ?_
    refine sw_ret (v := some _) ⟨dL_copies_27, _, rfl, rfl⟩ ?_
    exact lp_x pe (tc_3 sSI sSA) pR pF hO hn (Nat.le_refl _)
  refine sw_i2l (pc' := 10) rfl dL_copies_9 ?_
  refine sw_putN (ci := 5) (k := 0) (pc' := 13) rfl dL_copies_10 (by decide +kernel) (by decide +kernel) v_347 rfl ((pF 158 (by omega) (by omega)).trans hO) (by show 100 ≤ _; omega) (Nat.le_of_ble_eq_true rfl) rfl rfl ?_
  refine sw_nm (fun g1 eg1 => ?_)
  have zg1 := (congrFun eg1 158).trans (up_s (h := p) (i := 158))
  refine sw_goto (tgt := 28) dL_copies_13 (by decide +kernel) ?_
  refine sw_iconst (pc' := 29) (v := 0) rfl dL_copies_28 (by decide +kernel) ?_
  refine sw_ret (v := some _) ⟨dL_copies_29, _, rfl, rfl⟩ ?_
  exact lp_v pe pR pF zg1 rfl (fun i h1 => (congrFun eg1 i).trans ((up_n h1).trans (rfl)))
theorem ox_walk {σ : CS} {a x y : Int32} : OX [sI, sA] (opWalk σ a x y) := by
  unfold opWalk
  repeat' first
    | with_reducible exact ox_i
    | with_reducible exact ox_I mm_IA_I
    | with_reducible exact ox_A mm_IA_A
    | with_reducible refine ox_Sh mm_IA_I (fun _ => ?_)
    | with_reducible refine ox_Wk mm_IA_I (fun _ => ?_)
    | with_reducible refine ox_Rw mm_IA_I (fun _ => ?_)
    | with_reducible refine ox_Li mm_IA_I (fun _ => ?_)
    | with_reducible refine ox_if ?_ ?_
    | exact ox_i
    | exact ox_I mm_IA_I
    | exact ox_A mm_IA_A
    | refine ox_Sh mm_IA_I (fun _ => ?_)
    | refine ox_Wk mm_IA_I (fun _ => ?_)
    | refine ox_Rw mm_IA_I (fun _ => ?_)
    | refine ox_Li mm_IA_I (fun _ => ?_)
    | refine ox_if ?_ ?_
    | split
theorem L_walk {h : AH} {d bc bs n N : Nat} {σ : CS} {a x y : Int32} {w : Int64} {s : Value} (hR : RC h σ) (hT : TXT h) (hV : IV σ N) (hN : N < 2 ^ 31) (hO : h 158 = .inr (5, [.long w, s])) (hn : 159 ≤ n) (hd : 12 ≤ d) (h1 : 60 ≤ bc) (h2 : 400 ≤ bs) : SM SR0 ML_walk d bc bs [.ref 100, .int a, .int x, .int y, .ref 158] h n (LPo h n (tc sI sA) (opWalk σ a x y)) := by
  refine sm_ofH pn_OverwalksLaw (by decide +kernel) (Nat.le_of_ble_eq_true rfl) ?_
  refine sw_aload (pc' := 2) rfl dL_walk_0 rfl ?_
  refine sw_aload_n (pc' := 3) rfl dL_walk_2 rfl ?_
  refine sw_iload_n (pc' := 4) rfl dL_walk_3 rfl ?_
  refine sw_iload_n (pc' := 5) rfl dL_walk_4 rfl ?_
  refine sw_iload_n (pc' := 6) rfl dL_walk_5 rfl ?_
  refine sw_V (M' := MX3_walk) (d' := d - 1) (bc' := 20) (bs' := 200) (ci := 4) (as := [_, _, _]) dL_walk_6 w_627 ok_X3_walk (m_walk hR (by omega) (Nat.le_refl _) (Nat.le_refl _)) hR.1 rfl (by omega) (Nat.le_of_ble_eq_true rfl) (by omega) (by omega) (cp_e ox_walk (all2 (fun p pe pR pF => ?_) (fun p pe pR pF => ?_))) (cp_n ox_walk (fun p v pe pR pF => ?_))
  · refine swx_catchW (E := "java/lang/IndexOutOfBoundsException") (pre := []) (suf := [(0, 13, 20, 21)]) (x := (0, 13, 16, 19)) (k0 := 5) (lv' := [(0, _), (1, _), (2, _), (3, _), (4, _)]) rfl (pas0) (by decide +kernel) (by decide +kernel) w_395 v_325 dL_walk_16 (by decide +kernel) rfl ?_
    refine sw_iconst (pc' := 19) (v := 1) rfl dL_walk_18 (by decide +kernel) ?_
    refine sw_ret (v := some _) ⟨dL_walk_19, _, rfl, rfl⟩ ?_
    exact lp_x pe tc_1 pR pF hO hn (Nat.le_refl _)
  · refine swx_catchW (E := "java/lang/IllegalArgumentException") (pre := [(0, 13, 16, 19)]) (suf := []) (x := (0, 13, 20, 21)) (k0 := 5) (lv' := [(0, _), (1, _), (2, _), (3, _), (4, _)]) rfl (pas1 ⟨by decide +kernel, _, w_395, .tail _ (.tail _ (.head _))⟩) (by decide +kernel) (by decide +kernel) w_396 v_249 dL_walk_20 (by decide +kernel) rfl ?_
    refine sw_iconst (pc' := 23) (v := 2) rfl dL_walk_22 (by decide +kernel) ?_
    refine sw_ret (v := some _) ⟨dL_walk_23, _, rfl, rfl⟩ ?_
    exact lp_x pe (tc_2 sAI) pR pF hO hn (Nat.le_refl _)
  refine sw_i2l (pc' := 10) rfl dL_walk_9 ?_
  refine sw_putN (ci := 5) (k := 0) (pc' := 13) rfl dL_walk_10 (by decide +kernel) (by decide +kernel) v_347 rfl ((pF 158 (by omega) (by omega)).trans hO) (by show 100 ≤ _; omega) (Nat.le_of_ble_eq_true rfl) rfl rfl ?_
  refine sw_nm (fun g1 eg1 => ?_)
  have zg1 := (congrFun eg1 158).trans (up_s (h := p) (i := 158))
  refine sw_goto (tgt := 24) dL_walk_13 (by decide +kernel) ?_
  refine sw_iconst (pc' := 25) (v := 0) rfl dL_walk_24 (by decide +kernel) ?_
  refine sw_ret (v := some _) ⟨dL_walk_25, _, rfl, rfl⟩ ?_
  exact lp_v pe pR pF zg1 rfl (fun i h1 => (congrFun eg1 i).trans ((up_n h1).trans (rfl)))
theorem ox_next {σ : CS} {a : Int32} : OX [sI, sS] (opNext σ a) := by
  unfold opNext
  repeat' first
    | with_reducible exact ox_i
    | with_reducible exact ox_I mm_IS_I
    | with_reducible exact ox_S mm_IS_S
    | with_reducible refine ox_Sh mm_IS_I (fun _ => ?_)
    | with_reducible refine ox_Wk mm_IS_I (fun _ => ?_)
    | with_reducible refine ox_Rw mm_IS_I (fun _ => ?_)
    | with_reducible refine ox_Li mm_IS_I (fun _ => ?_)
    | with_reducible refine ox_if ?_ ?_
    | exact ox_i
    | exact ox_I mm_IS_I
    | exact ox_S mm_IS_S
    | refine ox_Sh mm_IS_I (fun _ => ?_)
    | refine ox_Wk mm_IS_I (fun _ => ?_)
    | refine ox_Rw mm_IS_I (fun _ => ?_)
    | refine ox_Li mm_IS_I (fun _ => ?_)
    | refine ox_if ?_ ?_
    | split
theorem L_next {h : AH} {d bc bs n N : Nat} {σ : CS} {a : Int32} {w : Int64} {s : Value} (hR : RC h σ) (hT : TXT h) (hV : IV σ N) (hN : N < 2 ^ 31) (hO : h 158 = .inr (5, [.long w, s])) (hn : 159 ≤ n) (hd : 12 ≤ d) (h1 : 60 ≤ bc) (h2 : 400 ≤ bs) : SM SR0 ML_next d bc bs [.ref 100, .int a, .ref 158] h n (LPo h n (tc sI sS) (opNext σ a)) := by
  refine sm_ofH pn_OverwalksLaw (by decide +kernel) (Nat.le_of_ble_eq_true rfl) ?_
  refine sw_aload_n (pc' := 1) rfl dL_next_0 rfl ?_
  refine sw_aload_n (pc' := 2) rfl dL_next_1 rfl ?_
  refine sw_iload_n (pc' := 3) rfl dL_next_2 rfl ?_
  refine sw_V (M' := MX3_next) (d' := d - 1) (bc' := 20) (bs' := 200) (ci := 4) (as := [_]) dL_next_3 w_636 ok_X3_next (m_next hR (by omega) (Nat.le_refl _) (Nat.le_refl _)) hR.1 rfl (by omega) (Nat.le_of_ble_eq_true rfl) (by omega) (by omega) (cp_e ox_next (all2 (fun p pe pR pF => ?_) (fun p pe pR pF => ?_))) (cp_n ox_next (fun p v pe pR pF => ?_))
  · refine swx_catch (E := "java/lang/IndexOutOfBoundsException") (pre := []) (suf := [(0, 10, 16, 23)]) (x := (0, 10, 13, 19)) (k0 := 3) (lv' := [(0, _), (1, _), (2, _)]) rfl (pas0) (by decide +kernel) (by decide +kernel) w_395 v_325 dL_next_13 (by decide +kernel) rfl ?_
    refine sw_iconst (pc' := 15) (v := 1) rfl dL_next_14 (by decide +kernel) ?_
    refine sw_ret (v := some _) ⟨dL_next_15, _, rfl, rfl⟩ ?_
    exact lp_x pe tc_1 pR pF hO hn (Nat.le_refl _)
  · refine swx_catch (E := "java/lang/IllegalStateException") (pre := [(0, 10, 13, 19)]) (suf := []) (x := (0, 10, 16, 23)) (k0 := 3) (lv' := [(0, _), (1, _), (2, _)]) rfl (pas1 ⟨by decide +kernel, _, w_395, .tail _ (.tail _ (.tail _ (.tail _ (.head _))))⟩) (by decide +kernel) (by decide +kernel) w_397 v_378 dL_next_16 (by decide +kernel) rfl ?_
    refine sw_iconst (pc' := 18) (v := 2) rfl dL_next_17 (by decide +kernel) ?_
    refine sw_ret (v := some _) ⟨dL_next_18, _, rfl, rfl⟩ ?_
    exact lp_x pe (tc_2 sSI) pR pF hO hn (Nat.le_refl _)
  refine sw_i2l (pc' := 7) rfl dL_next_6 ?_
  refine sw_putN (ci := 5) (k := 0) (pc' := 10) rfl dL_next_7 (by decide +kernel) (by decide +kernel) v_347 rfl ((pF 158 (by omega) (by omega)).trans hO) (by show 100 ≤ _; omega) (Nat.le_of_ble_eq_true rfl) rfl rfl ?_
  refine sw_nm (fun g1 eg1 => ?_)
  have zg1 := (congrFun eg1 158).trans (up_s (h := p) (i := 158))
  refine sw_goto (tgt := 19) dL_next_10 (by decide +kernel) ?_
  refine sw_iconst (pc' := 20) (v := 0) rfl dL_next_19 (by decide +kernel) ?_
  refine sw_ret (v := some _) ⟨dL_next_20, _, rfl, rfl⟩ ?_
  exact lp_v pe pR pF zg1 rfl (fun i h1 => (congrFun eg1 i).trans ((up_n h1).trans (rfl)))
theorem ox_more {σ : CS} {a : Int32} : OX [sI, sS] (opMore σ a) := by
  unfold opMore
  repeat' first
    | with_reducible exact ox_i
    | with_reducible exact ox_I mm_IS_I
    | with_reducible exact ox_S mm_IS_S
    | with_reducible refine ox_Sh mm_IS_I (fun _ => ?_)
    | with_reducible refine ox_Wk mm_IS_I (fun _ => ?_)
    | with_reducible refine ox_Rw mm_IS_I (fun _ => ?_)
    | with_reducible refine ox_Li mm_IS_I (fun _ => ?_)
    | with_reducible refine ox_if ?_ ?_
    | exact ox_i
    | exact ox_I mm_IS_I
    | exact ox_S mm_IS_S
    | refine ox_Sh mm_IS_I (fun _ => ?_)
    | refine ox_Wk mm_IS_I (fun _ => ?_)
    | refine ox_Rw mm_IS_I (fun _ => ?_)
    | refine ox_Li mm_IS_I (fun _ => ?_)
    | refine ox_if ?_ ?_
    | split
theorem L_more {h : AH} {d bc bs n N : Nat} {σ : CS} {a : Int32} {w : Int64} {s : Value} (hR : RC h σ) (hT : TXT h) (hV : IV σ N) (hN : N < 2 ^ 31) (hO : h 158 = .inr (5, [.long w, s])) (hn : 159 ≤ n) (hd : 12 ≤ d) (h1 : 60 ≤ bc) (h2 : 400 ≤ bs) : SM SR0 ML_more d bc bs [.ref 100, .int a, .ref 158] h n (LPo h n (tc sI sS) (opMore σ a)) := by
  refine sm_ofH pn_OverwalksLaw (by decide +kernel) (Nat.le_of_ble_eq_true rfl) ?_
  refine sw_aload_n (pc' := 1) rfl dL_more_0 rfl ?_
  refine sw_aload_n (pc' := 2) rfl dL_more_1 rfl ?_
  refine sw_iload_n (pc' := 3) rfl dL_more_2 rfl ?_
  refine sw_V (M' := MX3_more) (d' := d - 1) (bc' := 20) (bs' := 200) (ci := 4) (as := [_]) dL_more_3 w_647 ok_X3_more (m_more hR (by omega) (Nat.le_refl _) (Nat.le_refl _)) hR.1 rfl (by omega) (Nat.le_of_ble_eq_true rfl) (by omega) (by omega) (cp_e ox_more (all2 (fun p pe pR pF => ?_) (fun p pe pR pF => ?_))) (cp_n ox_more (fun p v pe pR pF => ?_))
  · refine swx_catch (E := "java/lang/IndexOutOfBoundsException") (pre := []) (suf := [(0, 10, 16, 23)]) (x := (0, 10, 13, 19)) (k0 := 3) (lv' := [(0, _), (1, _), (2, _)]) rfl (pas0) (by decide +kernel) (by decide +kernel) w_395 v_325 dL_more_13 (by decide +kernel) rfl ?_
    refine sw_iconst (pc' := 15) (v := 1) rfl dL_more_14 (by decide +kernel) ?_
    refine sw_ret (v := some _) ⟨dL_more_15, _, rfl, rfl⟩ ?_
    exact lp_x pe tc_1 pR pF hO hn (Nat.le_refl _)
  · refine swx_catch (E := "java/lang/IllegalStateException") (pre := [(0, 10, 13, 19)]) (suf := []) (x := (0, 10, 16, 23)) (k0 := 3) (lv' := [(0, _), (1, _), (2, _)]) rfl (pas1 ⟨by decide +kernel, _, w_395, .tail _ (.tail _ (.tail _ (.tail _ (.head _))))⟩) (by decide +kernel) (by decide +kernel) w_397 v_378 dL_more_16 (by decide +kernel) rfl ?_
    refine sw_iconst (pc' := 18) (v := 2) rfl dL_more_17 (by decide +kernel) ?_
    refine sw_ret (v := some _) ⟨dL_more_18, _, rfl, rfl⟩ ?_
    exact lp_x pe (tc_2 sSI) pR pF hO hn (Nat.le_refl _)
  refine sw_i2l (pc' := 7) rfl dL_more_6 ?_
  refine sw_putN (ci := 5) (k := 0) (pc' := 10) rfl dL_more_7 (by decide +kernel) (by decide +kernel) v_347 rfl ((pF 158 (by omega) (by omega)).trans hO) (by show 100 ≤ _; omega) (Nat.le_of_ble_eq_true rfl) rfl rfl ?_
  refine sw_nm (fun g1 eg1 => ?_)
  have zg1 := (congrFun eg1 158).trans (up_s (h := p) (i := 158))
  refine sw_goto (tgt := 19) dL_more_10 (by decide +kernel) ?_
  refine sw_iconst (pc' := 20) (v := 0) rfl dL_more_19 (by decide +kernel) ?_
  refine sw_ret (v := some _) ⟨dL_more_20, _, rfl, rfl⟩ ?_
  exact lp_v pe pR pF zg1 rfl (fun i h1 => (congrFun eg1 i).trans ((up_n h1).trans (rfl)))
theorem ox_takeOut {σ : CS} {a : Int32} : OX [sI, sS] (opTakeOut σ a) := by
  unfold opTakeOut
  repeat' first
    | with_reducible exact ox_i
    | with_reducible exact ox_I mm_IS_I
    | with_reducible exact ox_S mm_IS_S
    | with_reducible refine ox_Sh mm_IS_I (fun _ => ?_)
    | with_reducible refine ox_Wk mm_IS_I (fun _ => ?_)
    | with_reducible refine ox_Rw mm_IS_I (fun _ => ?_)
    | with_reducible refine ox_Li mm_IS_I (fun _ => ?_)
    | with_reducible refine ox_if ?_ ?_
    | exact ox_i
    | exact ox_I mm_IS_I
    | exact ox_S mm_IS_S
    | refine ox_Sh mm_IS_I (fun _ => ?_)
    | refine ox_Wk mm_IS_I (fun _ => ?_)
    | refine ox_Rw mm_IS_I (fun _ => ?_)
    | refine ox_Li mm_IS_I (fun _ => ?_)
    | refine ox_if ?_ ?_
    | split
theorem L_takeOut {h : AH} {d bc bs n N : Nat} {σ : CS} {a : Int32} {w : Int64} {s : Value} (hR : RC h σ) (hT : TXT h) (hV : IV σ N) (hN : N < 2 ^ 31) (hO : h 158 = .inr (5, [.long w, s])) (hn : 159 ≤ n) (hd : 12 ≤ d) (h1 : 60 ≤ bc) (h2 : 400 ≤ bs) : SM SR0 ML_takeOut d bc bs [.ref 100, .int a, .ref 158] h n (LPo h n (tc sI sS) (opTakeOut σ a)) := by
  refine sm_ofH pn_OverwalksLaw (by decide +kernel) (Nat.le_of_ble_eq_true rfl) ?_
  refine sw_aload_n (pc' := 1) rfl dL_takeOut_0 rfl ?_
  refine sw_aload_n (pc' := 2) rfl dL_takeOut_1 rfl ?_
  refine sw_iload_n (pc' := 3) rfl dL_takeOut_2 rfl ?_
  refine sw_V (M' := MX3_takeOut) (d' := d - 1) (bc' := 20) (bs' := 200) (ci := 4) (as := [_]) dL_takeOut_3 w_654 ok_X3_takeOut (m_takeOut hR (by omega) (Nat.le_refl _) (Nat.le_refl _) hV.2 (hV.iv hN).2.2.2.2.2.2.2) hR.1 rfl (by omega) (Nat.le_of_ble_eq_true rfl) (by omega) (by omega) (cp_e ox_takeOut (all2 (fun p pe pR pF => ?_) (fun p pe pR pF => ?_))) (cp_n ox_takeOut (fun p v pe pR pF => ?_))
  · refine swx_catch (E := "java/lang/IndexOutOfBoundsException") (pre := []) (suf := [(0, 10, 16, 23)]) (x := (0, 10, 13, 19)) (k0 := 3) (lv' := [(0, _), (1, _), (2, _)]) rfl (pas0) (by decide +kernel) (by decide +kernel) w_395 v_325 dL_takeOut_13 (by decide +kernel) rfl ?_
    refine sw_iconst (pc' := 15) (v := 1) rfl dL_takeOut_14 (by decide +kernel) ?_
    refine sw_ret (v := some _) ⟨dL_takeOut_15, _, rfl, rfl⟩ ?_
    exact lp_x pe tc_1 pR pF hO hn (Nat.le_refl _)
  · refine swx_catch (E := "java/lang/IllegalStateException") (pre := [(0, 10, 13, 19)]) (suf := []) (x := (0, 10, 16, 23)) (k0 := 3) (lv' := [(0, _), (1, _), (2, _)]) rfl (pas1 ⟨by decide +kernel, _, w_395, .tail _ (.tail _ (.tail _ (.tail _ (.head _))))⟩) (by decide +kernel) (by decide +kernel) w_397 v_378 dL_takeOut_16 (by decide +kernel) rfl ?_
    refine sw_iconst (pc' := 18) (v := 2) rfl dL_takeOut_17 (by decide +kernel) ?_
    refine sw_ret (v := some _) ⟨dL_takeOut_18, _, rfl, rfl⟩ ?_
    exact lp_x pe (tc_2 sSI) pR pF hO hn (Nat.le_refl _)
  refine sw_i2l (pc' := 7) rfl dL_takeOut_6 ?_
  refine sw_putN (ci := 5) (k := 0) (pc' := 10) rfl dL_takeOut_7 (by decide +kernel) (by decide +kernel) v_347 rfl ((pF 158 (by omega) (by omega)).trans hO) (by show 100 ≤ _; omega) (Nat.le_of_ble_eq_true rfl) rfl rfl ?_
  refine sw_nm (fun g1 eg1 => ?_)
  have zg1 := (congrFun eg1 158).trans (up_s (h := p) (i := 158))
  refine sw_goto (tgt := 19) dL_takeOut_10 (by decide +kernel) ?_
  refine sw_iconst (pc' := 20) (v := 0) rfl dL_takeOut_19 (by decide +kernel) ?_
  refine sw_ret (v := some _) ⟨dL_takeOut_20, _, rfl, rfl⟩ ?_
  exact lp_v pe pR pF zg1 rfl (fun i h1 => (congrFun eg1 i).trans ((up_n h1).trans (rfl)))
theorem ot_rest {σ : CS} {a : Int32} : OT [sI, sS] (opRest σ a) := by
  unfold opRest
  repeat' first
    | with_reducible exact ot_t
    | with_reducible exact ot_I mm_IS_I
    | with_reducible exact ot_S mm_IS_S
    | with_reducible refine ot_Sh mm_IS_I (fun _ => ?_)
    | with_reducible refine ot_Wk mm_IS_I (fun _ => ?_)
    | with_reducible refine ot_if ?_ ?_
    | exact ot_t
    | exact ot_I mm_IS_I
    | exact ot_S mm_IS_S
    | refine ot_Sh mm_IS_I (fun _ => ?_)
    | refine ot_Wk mm_IS_I (fun _ => ?_)
    | refine ot_if ?_ ?_
    | split
theorem L_rest {h : AH} {d bc bs n N : Nat} {σ : CS} {a : Int32} {w : Int64} {s : Value} (hR : RC h σ) (hT : TXT h) (hV : IV σ N) (hN : N < 2 ^ 31) (hO : h 158 = .inr (5, [.long w, s])) (hn : 159 ≤ n) (hd : 12 ≤ d) (h1 : 60 ≤ bc) (h2 : 400 ≤ bs) : SM SR0 ML_rest d bc bs [.ref 100, .int a, .ref 158] h n (LPt h n (tc sI sS) (opRest σ a) (tcR σ a)) := by
  refine sm_ofH pn_OverwalksLaw (by decide +kernel) (Nat.le_of_ble_eq_true rfl) ?_
  refine sw_aload_n (pc' := 1) rfl dL_rest_0 rfl ?_
  refine sw_aload_n (pc' := 2) rfl dL_rest_1 rfl ?_
  refine sw_iload_n (pc' := 3) rfl dL_rest_2 rfl ?_
  refine sw_V (M' := MX3_rest) (d' := d - 1) (bc' := 60) (bs' := 400) (ci := 4) (as := [_]) dL_rest_3 w_669 ok_X3_rest (m_rest hR hT hV hN (by omega) (by omega) (Nat.le_refl _) (Nat.le_refl _)) hR.1 rfl (by omega) (Nat.le_of_ble_eq_true rfl) (by omega) (by omega) (ct_e ot_rest (all2 (fun p pn pk pe pR pF => ?_) (fun p pn pk pe pR pF => ?_))) (ct_n ot_rest (fun p pn x L pk pe pL pS pR pF => ?_))
  · refine swx_catch (E := "java/lang/IndexOutOfBoundsException") (pre := []) (suf := [(0, 9, 15, 23)]) (x := (0, 9, 12, 19)) (k0 := 3) (lv' := [(0, _), (1, _), (2, _)]) rfl (pas0) (by decide +kernel) (by decide +kernel) w_395 v_325 dL_rest_12 (by decide +kernel) rfl ?_
    refine sw_iconst (pc' := 14) (v := 1) rfl dL_rest_13 (by decide +kernel) ?_
    refine sw_ret (v := some _) ⟨dL_rest_14, _, rfl, rfl⟩ ?_
    exact lt_x pe tc_1 pR pF hO hn pk
  · refine swx_catch (E := "java/lang/IllegalStateException") (pre := [(0, 9, 12, 19)]) (suf := []) (x := (0, 9, 15, 23)) (k0 := 3) (lv' := [(0, _), (1, _), (2, _)]) rfl (pas1 ⟨by decide +kernel, _, w_395, .tail _ (.tail _ (.tail _ (.tail _ (.head _))))⟩) (by decide +kernel) (by decide +kernel) w_397 v_378 dL_rest_15 (by decide +kernel) rfl ?_
    refine sw_iconst (pc' := 17) (v := 2) rfl dL_rest_16 (by decide +kernel) ?_
    refine sw_ret (v := some _) ⟨dL_rest_17, _, rfl, rfl⟩ ?_
    exact lt_x pe (tc_2 sSI) pR pF hO hn pk
  refine sw_putN (ci := 5) (k := 1) (pc' := 9) rfl dL_rest_6 (by decide +kernel) (by decide +kernel) v_348 rfl ((pF 158 (by omega) (by omega)).trans hO) (by show 100 ≤ _; omega) (Nat.le_of_ble_eq_true rfl) rfl rfl ?_
  refine sw_nm (fun g1 eg1 => ?_)
  have zg1 := (congrFun eg1 158).trans (up_s (h := p) (i := 158))
  refine sw_goto (tgt := 18) dL_rest_9 (by decide +kernel) ?_
  refine sw_iconst (pc' := 19) (v := 0) rfl dL_rest_18 (by decide +kernel) ?_
  refine sw_ret (v := some _) ⟨dL_rest_19, _, rfl, rfl⟩ ?_
  exact lp_t pe pR pF zg1 (fun i h1 => (congrFun eg1 i).trans ((up_n h1).trans (rfl))) pk pL pS hn
theorem ox_keepRest {σ : CS} {a x : Int32} : OX [sI, sS] (opKeepRest σ a x) := by
  unfold opKeepRest
  repeat' first
    | with_reducible exact ox_i
    | with_reducible exact ox_I mm_IS_I
    | with_reducible exact ox_S mm_IS_S
    | with_reducible refine ox_Sh mm_IS_I (fun _ => ?_)
    | with_reducible refine ox_Wk mm_IS_I (fun _ => ?_)
    | with_reducible refine ox_Rw mm_IS_I (fun _ => ?_)
    | with_reducible refine ox_Li mm_IS_I (fun _ => ?_)
    | with_reducible refine ox_if ?_ ?_
    | exact ox_i
    | exact ox_I mm_IS_I
    | exact ox_S mm_IS_S
    | refine ox_Sh mm_IS_I (fun _ => ?_)
    | refine ox_Wk mm_IS_I (fun _ => ?_)
    | refine ox_Rw mm_IS_I (fun _ => ?_)
    | refine ox_Li mm_IS_I (fun _ => ?_)
    | refine ox_if ?_ ?_
    | split
theorem L_keepRest {h : AH} {d bc bs n N : Nat} {σ : CS} {a x : Int32} {w : Int64} {s : Value} (hR : RC h σ) (hT : TXT h) (hV : IV σ N) (hN : N < 2 ^ 31) (hO : h 158 = .inr (5, [.long w, s])) (hn : 159 ≤ n) (hd : 12 ≤ d) (h1 : 60 ≤ bc) (h2 : 400 ≤ bs) : SM SR0 ML_keepRest d bc bs [.ref 100, .int a, .int x, .ref 158] h n (LPo h n (tc sI sS) (opKeepRest σ a x)) := by
  refine sm_ofH pn_OverwalksLaw (by decide +kernel) (Nat.le_of_ble_eq_true rfl) ?_
  refine sw_aload_n (pc' := 1) rfl dL_keepRest_0 rfl ?_
  refine sw_aload_n (pc' := 2) rfl dL_keepRest_1 rfl ?_
  refine sw_iload_n (pc' := 3) rfl dL_keepRest_2 rfl ?_
  refine sw_iload_n (pc' := 4) rfl dL_keepRest_3 rfl ?_
  refine sw_V (M' := MX3_keepRest) (d' := d - 1) (bc' := 20) (bs' := 200) (ci := 4) (as := [_, _]) dL_keepRest_4 w_955 ok_X3_keepRest (m_keepRest hR (by omega) (Nat.le_refl _) (Nat.le_refl _) (hV.iv hN).2.2.2.2.2.2.2) hR.1 rfl (by omega) (Nat.le_of_ble_eq_true rfl) (by omega) (by omega) (cp_e ox_keepRest (all2 (fun p pe pR pF => ?_) (fun p pe pR pF => ?_))) (cp_n ox_keepRest (fun p v pe pR pF => ?_))
  · refine swx_catchW (E := "java/lang/IndexOutOfBoundsException") (pre := []) (suf := [(0, 11, 18, 23)]) (x := (0, 11, 14, 19)) (k0 := 4) (lv' := [(0, _), (1, _), (2, _), (3, _)]) rfl (pas0) (by decide +kernel) (by decide +kernel) w_395 v_325 dL_keepRest_14 (by decide +kernel) rfl ?_
    refine sw_iconst (pc' := 17) (v := 1) rfl dL_keepRest_16 (by decide +kernel) ?_
    refine sw_ret (v := some _) ⟨dL_keepRest_17, _, rfl, rfl⟩ ?_
    exact lp_x pe tc_1 pR pF hO hn (Nat.le_refl _)
  · refine swx_catchW (E := "java/lang/IllegalStateException") (pre := [(0, 11, 14, 19)]) (suf := []) (x := (0, 11, 18, 23)) (k0 := 4) (lv' := [(0, _), (1, _), (2, _), (3, _)]) rfl (pas1 ⟨by decide +kernel, _, w_395, .tail _ (.tail _ (.tail _ (.tail _ (.head _))))⟩) (by decide +kernel) (by decide +kernel) w_397 v_378 dL_keepRest_18 (by decide +kernel) rfl ?_
    refine sw_iconst (pc' := 21) (v := 2) rfl dL_keepRest_20 (by decide +kernel) ?_
    refine sw_ret (v := some _) ⟨dL_keepRest_21, _, rfl, rfl⟩ ?_
    exact lp_x pe (tc_2 sSI) pR pF hO hn (Nat.le_refl _)
  refine sw_i2l (pc' := 8) rfl dL_keepRest_7 ?_
  refine sw_putN (ci := 5) (k := 0) (pc' := 11) rfl dL_keepRest_8 (by decide +kernel) (by decide +kernel) v_347 rfl ((pF 158 (by omega) (by omega)).trans hO) (by show 100 ≤ _; omega) (Nat.le_of_ble_eq_true rfl) rfl rfl ?_
  refine sw_nm (fun g1 eg1 => ?_)
  have zg1 := (congrFun eg1 158).trans (up_s (h := p) (i := 158))
  refine sw_goto (tgt := 22) dL_keepRest_11 (by decide +kernel) ?_
  refine sw_iconst (pc' := 23) (v := 0) rfl dL_keepRest_22 (by decide +kernel) ?_
  refine sw_ret (v := some _) ⟨dL_keepRest_23, _, rfl, rfl⟩ ?_
  exact lp_v pe pR pF zg1 rfl (fun i h1 => (congrFun eg1 i).trans ((up_n h1).trans (rfl)))
theorem ox_keep {σ : CS} {a x : Int32} : OX [sI] (opKeep σ a x) := by
  unfold opKeep
  repeat' first
    | with_reducible exact ox_i
    | with_reducible exact ox_I mm_I_I
    | with_reducible refine ox_Sh mm_I_I (fun _ => ?_)
    | with_reducible refine ox_Wk mm_I_I (fun _ => ?_)
    | with_reducible refine ox_Rw mm_I_I (fun _ => ?_)
    | with_reducible refine ox_Li mm_I_I (fun _ => ?_)
    | with_reducible refine ox_if ?_ ?_
    | exact ox_i
    | exact ox_I mm_I_I
    | refine ox_Sh mm_I_I (fun _ => ?_)
    | refine ox_Wk mm_I_I (fun _ => ?_)
    | refine ox_Rw mm_I_I (fun _ => ?_)
    | refine ox_Li mm_I_I (fun _ => ?_)
    | refine ox_if ?_ ?_
    | split
theorem L_keep {h : AH} {d bc bs n N : Nat} {σ : CS} {a x : Int32} {w : Int64} {s : Value} (hR : RC h σ) (hT : TXT h) (hV : IV σ N) (hN : N < 2 ^ 31) (hO : h 158 = .inr (5, [.long w, s])) (hn : 159 ≤ n) (hd : 12 ≤ d) (h1 : 60 ≤ bc) (h2 : 400 ≤ bs) : SM SR0 ML_keep d bc bs [.ref 100, .int a, .int x, .ref 158] h n (LPo h n (tc sI sI) (opKeep σ a x)) := by
  refine sm_ofH pn_OverwalksLaw (by decide +kernel) (Nat.le_of_ble_eq_true rfl) ?_
  refine sw_aload_n (pc' := 1) rfl dL_keep_0 rfl ?_
  refine sw_aload_n (pc' := 2) rfl dL_keep_1 rfl ?_
  refine sw_iload_n (pc' := 3) rfl dL_keep_2 rfl ?_
  refine sw_iload_n (pc' := 4) rfl dL_keep_3 rfl ?_
  refine sw_V (M' := MX3_keep) (d' := d - 1) (bc' := 20) (bs' := 200) (ci := 4) (as := [_, _]) dL_keep_4 w_967 ok_X3_keep (m_keep hR (by omega) (Nat.le_refl _) (Nat.le_refl _)) hR.1 rfl (by omega) (Nat.le_of_ble_eq_true rfl) (by omega) (by omega) (cp_e ox_keep (all1 (fun p pe pR pF => ?_))) (cp_n ox_keep (fun p v pe pR pF => ?_))
  · refine swx_catchW (E := "java/lang/IndexOutOfBoundsException") (pre := []) (suf := []) (x := (0, 11, 14, 19)) (k0 := 4) (lv' := [(0, _), (1, _), (2, _), (3, _)]) rfl (pas0) (by decide +kernel) (by decide +kernel) w_395 v_325 dL_keep_14 (by decide +kernel) rfl ?_
    refine sw_iconst (pc' := 17) (v := 1) rfl dL_keep_16 (by decide +kernel) ?_
    refine sw_ret (v := some _) ⟨dL_keep_17, _, rfl, rfl⟩ ?_
    exact lp_x pe tc_1 pR pF hO hn (Nat.le_refl _)
  refine sw_i2l (pc' := 8) rfl dL_keep_7 ?_
  refine sw_putN (ci := 5) (k := 0) (pc' := 11) rfl dL_keep_8 (by decide +kernel) (by decide +kernel) v_347 rfl ((pF 158 (by omega) (by omega)).trans hO) (by show 100 ≤ _; omega) (Nat.le_of_ble_eq_true rfl) rfl rfl ?_
  refine sw_nm (fun g1 eg1 => ?_)
  have zg1 := (congrFun eg1 158).trans (up_s (h := p) (i := 158))
  refine sw_goto (tgt := 18) dL_keep_11 (by decide +kernel) ?_
  refine sw_iconst (pc' := 19) (v := 0) rfl dL_keep_18 (by decide +kernel) ?_
  refine sw_ret (v := some _) ⟨dL_keep_19, _, rfl, rfl⟩ ?_
  exact lp_v pe pR pF zg1 rfl (fun i h1 => (congrFun eg1 i).trans ((up_n h1).trans (rfl)))
theorem ox_drop {σ : CS} {a : Int32} : OX [sI] (opDrop σ a) := by
  unfold opDrop
  repeat' first
    | with_reducible exact ox_i
    | with_reducible exact ox_I mm_I_I
    | with_reducible refine ox_Sh mm_I_I (fun _ => ?_)
    | with_reducible refine ox_Wk mm_I_I (fun _ => ?_)
    | with_reducible refine ox_Rw mm_I_I (fun _ => ?_)
    | with_reducible refine ox_Li mm_I_I (fun _ => ?_)
    | with_reducible refine ox_if ?_ ?_
    | exact ox_i
    | exact ox_I mm_I_I
    | refine ox_Sh mm_I_I (fun _ => ?_)
    | refine ox_Wk mm_I_I (fun _ => ?_)
    | refine ox_Rw mm_I_I (fun _ => ?_)
    | refine ox_Li mm_I_I (fun _ => ?_)
    | refine ox_if ?_ ?_
    | split
theorem L_drop {h : AH} {d bc bs n N : Nat} {σ : CS} {a : Int32} {w : Int64} {s : Value} (hR : RC h σ) (hT : TXT h) (hV : IV σ N) (hN : N < 2 ^ 31) (hO : h 158 = .inr (5, [.long w, s])) (hn : 159 ≤ n) (hd : 12 ≤ d) (h1 : 60 ≤ bc) (h2 : 400 ≤ bs) : SM SR0 ML_drop d bc bs [.ref 100, .int a, .ref 158] h n (LPo h n (tc sI sI) (opDrop σ a)) := by
  refine sm_ofH pn_OverwalksLaw (by decide +kernel) (Nat.le_of_ble_eq_true rfl) ?_
  refine sw_aload_n (pc' := 1) rfl dL_drop_0 rfl ?_
  refine sw_aload_n (pc' := 2) rfl dL_drop_1 rfl ?_
  refine sw_iload_n (pc' := 3) rfl dL_drop_2 rfl ?_
  refine sw_V (M' := MX3_drop) (d' := d - 1) (bc' := 20) (bs' := 200) (ci := 4) (as := [_]) dL_drop_3 w_974 ok_X3_drop (m_drop hR (by omega) (Nat.le_refl _) (Nat.le_refl _)) hR.1 rfl (by omega) (Nat.le_of_ble_eq_true rfl) (by omega) (by omega) (cp_e ox_drop (all1 (fun p pe pR pF => ?_))) (cp_n ox_drop (fun p v pe pR pF => ?_))
  · refine swx_catch (E := "java/lang/IndexOutOfBoundsException") (pre := []) (suf := []) (x := (0, 10, 13, 19)) (k0 := 3) (lv' := [(0, _), (1, _), (2, _)]) rfl (pas0) (by decide +kernel) (by decide +kernel) w_395 v_325 dL_drop_13 (by decide +kernel) rfl ?_
    refine sw_iconst (pc' := 15) (v := 1) rfl dL_drop_14 (by decide +kernel) ?_
    refine sw_ret (v := some _) ⟨dL_drop_15, _, rfl, rfl⟩ ?_
    exact lp_x pe tc_1 pR pF hO hn (Nat.le_refl _)
  refine sw_i2l (pc' := 7) rfl dL_drop_6 ?_
  refine sw_putN (ci := 5) (k := 0) (pc' := 10) rfl dL_drop_7 (by decide +kernel) (by decide +kernel) v_347 rfl ((pF 158 (by omega) (by omega)).trans hO) (by show 100 ≤ _; omega) (Nat.le_of_ble_eq_true rfl) rfl rfl ?_
  refine sw_nm (fun g1 eg1 => ?_)
  have zg1 := (congrFun eg1 158).trans (up_s (h := p) (i := 158))
  refine sw_goto (tgt := 16) dL_drop_10 (by decide +kernel) ?_
  refine sw_iconst (pc' := 17) (v := 0) rfl dL_drop_16 (by decide +kernel) ?_
  refine sw_ret (v := some _) ⟨dL_drop_17, _, rfl, rfl⟩ ?_
  exact lp_v pe pR pF zg1 rfl (fun i h1 => (congrFun eg1 i).trans ((up_n h1).trans (rfl)))
theorem ox_skip {σ : CS} {a x : Int32} : OX [sI, sA, sS] (opSkip σ a x) := by
  unfold opSkip
  repeat' first
    | with_reducible exact ox_i
    | with_reducible exact ox_I mm_IAS_I
    | with_reducible exact ox_A mm_IAS_A
    | with_reducible exact ox_S mm_IAS_S
    | with_reducible refine ox_Sh mm_IAS_I (fun _ => ?_)
    | with_reducible refine ox_Wk mm_IAS_I (fun _ => ?_)
    | with_reducible refine ox_Rw mm_IAS_I (fun _ => ?_)
    | with_reducible refine ox_Li mm_IAS_I (fun _ => ?_)
    | with_reducible refine ox_if ?_ ?_
    | exact ox_i
    | exact ox_I mm_IAS_I
    | exact ox_A mm_IAS_A
    | exact ox_S mm_IAS_S
    | refine ox_Sh mm_IAS_I (fun _ => ?_)
    | refine ox_Wk mm_IAS_I (fun _ => ?_)
    | refine ox_Rw mm_IAS_I (fun _ => ?_)
    | refine ox_Li mm_IAS_I (fun _ => ?_)
    | refine ox_if ?_ ?_
    | split
theorem L_skip {h : AH} {d bc bs n N : Nat} {σ : CS} {a x : Int32} {w : Int64} {s : Value} (hR : RC h σ) (hT : TXT h) (hV : IV σ N) (hN : N < 2 ^ 31) (hO : h 158 = .inr (5, [.long w, s])) (hn : 159 ≤ n) (hd : 12 ≤ d) (h1 : 60 ≤ bc) (h2 : 400 ≤ bs) : SM SR0 ML_skip d bc bs [.ref 100, .int a, .int x, .ref 158] h n (LPo h n (tc sI sA) (opSkip σ a x)) := by
  refine sm_ofH pn_OverwalksLaw (by decide +kernel) (Nat.le_of_ble_eq_true rfl) ?_
  refine sw_aload_n (pc' := 1) rfl dL_skip_0 rfl ?_
  refine sw_aload_n (pc' := 2) rfl dL_skip_1 rfl ?_
  refine sw_iload_n (pc' := 3) rfl dL_skip_2 rfl ?_
  refine sw_iload_n (pc' := 4) rfl dL_skip_3 rfl ?_
  refine sw_V (M' := MX3_skip) (d' := d - 1) (bc' := 20) (bs' := 200) (ci := 4) (as := [_, _]) dL_skip_4 w_981 ok_X3_skip (m_skip hR (by omega) (Nat.le_refl _) (Nat.le_refl _)) hR.1 rfl (by omega) (Nat.le_of_ble_eq_true rfl) (by omega) (by omega) (cp_e ox_skip (all3 (fun p pe pR pF => ?_) (fun p pe pR pF => ?_) (fun p pe pR pF => ?_))) (cp_n ox_skip (fun p v pe pR pF => ?_))
  · refine swx_catchW (E := "java/lang/IndexOutOfBoundsException") (pre := []) (suf := [(0, 11, 18, 21), (0, 11, 22, 23)]) (x := (0, 11, 14, 19)) (k0 := 4) (lv' := [(0, _), (1, _), (2, _), (3, _)]) rfl (pas0) (by decide +kernel) (by decide +kernel) w_395 v_325 dL_skip_14 (by decide +kernel) rfl ?_
    refine sw_iconst (pc' := 17) (v := 1) rfl dL_skip_16 (by decide +kernel) ?_
    refine sw_ret (v := some _) ⟨dL_skip_17, _, rfl, rfl⟩ ?_
    exact lp_x pe tc_1 pR pF hO hn (Nat.le_refl _)
  · refine swx_catchW (E := "java/lang/IllegalArgumentException") (pre := [(0, 11, 14, 19)]) (suf := [(0, 11, 22, 23)]) (x := (0, 11, 18, 21)) (k0 := 4) (lv' := [(0, _), (1, _), (2, _), (3, _)]) rfl (pas1 ⟨by decide +kernel, _, w_395, .tail _ (.tail _ (.head _))⟩) (by decide +kernel) (by decide +kernel) w_396 v_249 dL_skip_18 (by decide +kernel) rfl ?_
    refine sw_iconst (pc' := 21) (v := 2) rfl dL_skip_20 (by decide +kernel) ?_
    refine sw_ret (v := some _) ⟨dL_skip_21, _, rfl, rfl⟩ ?_
    exact lp_x pe (tc_2 sAI) pR pF hO hn (Nat.le_refl _)
  · refine swx_catchW (E := "java/lang/IllegalStateException") (pre := [(0, 11, 14, 19), (0, 11, 18, 21)]) (suf := []) (x := (0, 11, 22, 23)) (k0 := 4) (lv' := [(0, _), (1, _), (2, _), (3, _)]) rfl (pas2 ⟨by decide +kernel, _, w_395, .tail _ (.tail _ (.tail _ (.tail _ (.head _))))⟩ ⟨by decide +kernel, _, w_396, .tail _ (.tail _ (.tail _ (.tail _ (.tail _ (.head _)))))⟩) (by decide +kernel) (by decide +kernel) w_397 v_378 dL_skip_22 (by decide +kernel) rfl ?_
    refine sw_iconst (pc' := 25) (v := 3) rfl dL_skip_24 (by decide +kernel) ?_
    refine sw_ret (v := some _) ⟨dL_skip_25, _, rfl, rfl⟩ ?_
    exact lp_x pe (tc_3 sSI sSA) pR pF hO hn (Nat.le_refl _)
  refine sw_i2l (pc' := 8) rfl dL_skip_7 ?_
  refine sw_putN (ci := 5) (k := 0) (pc' := 11) rfl dL_skip_8 (by decide +kernel) (by decide +kernel) v_347 rfl ((pF 158 (by omega) (by omega)).trans hO) (by show 100 ≤ _; omega) (Nat.le_of_ble_eq_true rfl) rfl rfl ?_
  refine sw_nm (fun g1 eg1 => ?_)
  have zg1 := (congrFun eg1 158).trans (up_s (h := p) (i := 158))
  refine sw_goto (tgt := 26) dL_skip_11 (by decide +kernel) ?_
  refine sw_iconst (pc' := 27) (v := 0) rfl dL_skip_26 (by decide +kernel) ?_
  refine sw_ret (v := some _) ⟨dL_skip_27, _, rfl, rfl⟩ ?_
  exact lp_v pe pR pF zg1 rfl (fun i h1 => (congrFun eg1 i).trans ((up_n h1).trans (rfl)))
theorem ox_pourRest {σ : CS} {a x : Int32} : OX [sI, sS] (opPourRest σ a x) := by
  unfold opPourRest
  repeat' first
    | with_reducible exact ox_i
    | with_reducible exact ox_I mm_IS_I
    | with_reducible exact ox_S mm_IS_S
    | with_reducible refine ox_Sh mm_IS_I (fun _ => ?_)
    | with_reducible refine ox_Wk mm_IS_I (fun _ => ?_)
    | with_reducible refine ox_Rw mm_IS_I (fun _ => ?_)
    | with_reducible refine ox_Li mm_IS_I (fun _ => ?_)
    | with_reducible refine ox_if ?_ ?_
    | exact ox_i
    | exact ox_I mm_IS_I
    | exact ox_S mm_IS_S
    | refine ox_Sh mm_IS_I (fun _ => ?_)
    | refine ox_Wk mm_IS_I (fun _ => ?_)
    | refine ox_Rw mm_IS_I (fun _ => ?_)
    | refine ox_Li mm_IS_I (fun _ => ?_)
    | refine ox_if ?_ ?_
    | split
theorem L_pourRest {h : AH} {d bc bs n N : Nat} {σ : CS} {a x : Int32} {w : Int64} {s : Value} (hR : RC h σ) (hT : TXT h) (hV : IV σ N) (hN : N < 2 ^ 31) (hO : h 158 = .inr (5, [.long w, s])) (hn : 159 ≤ n) (hd : 12 ≤ d) (h1 : 60 ≤ bc) (h2 : 400 ≤ bs) : SM SR0 ML_pourRest d bc bs [.ref 100, .int a, .int x, .ref 158] h n (LPo h n (tc sI sS) (opPourRest σ a x)) := by
  refine sm_ofH pn_OverwalksLaw (by decide +kernel) (Nat.le_of_ble_eq_true rfl) ?_
  refine sw_aload_n (pc' := 1) rfl dL_pourRest_0 rfl ?_
  refine sw_aload_n (pc' := 2) rfl dL_pourRest_1 rfl ?_
  refine sw_iload_n (pc' := 3) rfl dL_pourRest_2 rfl ?_
  refine sw_iload_n (pc' := 4) rfl dL_pourRest_3 rfl ?_
  refine sw_V (M' := MX3_pourRest) (d' := d - 1) (bc' := 20) (bs' := 200) (ci := 4) (as := [_, _]) dL_pourRest_4 w_988 ok_X3_pourRest (m_pourRest hR (by omega) (Nat.le_refl _) (Nat.le_refl _) (hV.iv hN).2.2.2.2.2.2.2) hR.1 rfl (by omega) (Nat.le_of_ble_eq_true rfl) (by omega) (by omega) (cp_e ox_pourRest (all2 (fun p pe pR pF => ?_) (fun p pe pR pF => ?_))) (cp_n ox_pourRest (fun p v pe pR pF => ?_))
  · refine swx_catchW (E := "java/lang/IndexOutOfBoundsException") (pre := []) (suf := [(0, 11, 18, 23)]) (x := (0, 11, 14, 19)) (k0 := 4) (lv' := [(0, _), (1, _), (2, _), (3, _)]) rfl (pas0) (by decide +kernel) (by decide +kernel) w_395 v_325 dL_pourRest_14 (by decide +kernel) rfl ?_
    refine sw_iconst (pc' := 17) (v := 1) rfl dL_pourRest_16 (by decide +kernel) ?_
    refine sw_ret (v := some _) ⟨dL_pourRest_17, _, rfl, rfl⟩ ?_
    exact lp_x pe tc_1 pR pF hO hn (Nat.le_refl _)
  · refine swx_catchW (E := "java/lang/IllegalStateException") (pre := [(0, 11, 14, 19)]) (suf := []) (x := (0, 11, 18, 23)) (k0 := 4) (lv' := [(0, _), (1, _), (2, _), (3, _)]) rfl (pas1 ⟨by decide +kernel, _, w_395, .tail _ (.tail _ (.tail _ (.tail _ (.head _))))⟩) (by decide +kernel) (by decide +kernel) w_397 v_378 dL_pourRest_18 (by decide +kernel) rfl ?_
    refine sw_iconst (pc' := 21) (v := 2) rfl dL_pourRest_20 (by decide +kernel) ?_
    refine sw_ret (v := some _) ⟨dL_pourRest_21, _, rfl, rfl⟩ ?_
    exact lp_x pe (tc_2 sSI) pR pF hO hn (Nat.le_refl _)
  refine sw_i2l (pc' := 8) rfl dL_pourRest_7 ?_
  refine sw_putN (ci := 5) (k := 0) (pc' := 11) rfl dL_pourRest_8 (by decide +kernel) (by decide +kernel) v_347 rfl ((pF 158 (by omega) (by omega)).trans hO) (by show 100 ≤ _; omega) (Nat.le_of_ble_eq_true rfl) rfl rfl ?_
  refine sw_nm (fun g1 eg1 => ?_)
  have zg1 := (congrFun eg1 158).trans (up_s (h := p) (i := 158))
  refine sw_goto (tgt := 22) dL_pourRest_11 (by decide +kernel) ?_
  refine sw_iconst (pc' := 23) (v := 0) rfl dL_pourRest_22 (by decide +kernel) ?_
  refine sw_ret (v := some _) ⟨dL_pourRest_23, _, rfl, rfl⟩ ?_
  exact lp_v pe pR pF zg1 rfl (fun i h1 => (congrFun eg1 i).trans ((up_n h1).trans (rfl)))
theorem ot_zip {σ : CS} {a x : Int32} : OT [sI, sA, sS] (opZip σ a x) := by
  unfold opZip
  repeat' first
    | with_reducible exact ot_t
    | with_reducible exact ot_I mm_IAS_I
    | with_reducible exact ot_A mm_IAS_A
    | with_reducible exact ot_S mm_IAS_S
    | with_reducible refine ot_Sh mm_IAS_I (fun _ => ?_)
    | with_reducible refine ot_Wk mm_IAS_I (fun _ => ?_)
    | with_reducible refine ot_if ?_ ?_
    | exact ot_t
    | exact ot_I mm_IAS_I
    | exact ot_A mm_IAS_A
    | exact ot_S mm_IAS_S
    | refine ot_Sh mm_IAS_I (fun _ => ?_)
    | refine ot_Wk mm_IAS_I (fun _ => ?_)
    | refine ot_if ?_ ?_
    | split
theorem L_zip {h : AH} {d bc bs n N : Nat} {σ : CS} {a x : Int32} {w : Int64} {s : Value} (hR : RC h σ) (hT : TXT h) (hV : IV σ N) (hN : N < 2 ^ 31) (hO : h 158 = .inr (5, [.long w, s])) (hn : 159 ≤ n) (hd : 12 ≤ d) (h1 : 60 ≤ bc) (h2 : 400 ≤ bs) : SM SR0 ML_zip d bc bs [.ref 100, .int a, .int x, .ref 158] h n (LPt h n (tc sI sA) (opZip σ a x) (tcZ σ a x)) := by
  refine sm_ofH pn_OverwalksLaw (by decide +kernel) (Nat.le_of_ble_eq_true rfl) ?_
  refine sw_aload_n (pc' := 1) rfl dL_zip_0 rfl ?_
  refine sw_aload_n (pc' := 2) rfl dL_zip_1 rfl ?_
  refine sw_iload_n (pc' := 3) rfl dL_zip_2 rfl ?_
  refine sw_iload_n (pc' := 4) rfl dL_zip_3 rfl ?_
  refine sw_V (M' := MX3_zip) (d' := d - 1) (bc' := 60) (bs' := 400) (ci := 4) (as := [_, _]) dL_zip_4 w_995 ok_X3_zip (m_zip hR hT hV hN (by omega) (by omega) (Nat.le_refl _) (Nat.le_refl _)) hR.1 rfl (by omega) (Nat.le_of_ble_eq_true rfl) (by omega) (by omega) (ct_e ot_zip (all3 (fun p pn pk pe pR pF => ?_) (fun p pn pk pe pR pF => ?_) (fun p pn pk pe pR pF => ?_))) (ct_n ot_zip (fun p pn x L pk pe pL pS pR pF => ?_))
  · refine swx_catchW (E := "java/lang/IndexOutOfBoundsException") (pre := []) (suf := [(0, 10, 17, 21), (0, 10, 21, 23)]) (x := (0, 10, 13, 19)) (k0 := 4) (lv' := [(0, _), (1, _), (2, _), (3, _)]) rfl (pas0) (by decide +kernel) (by decide +kernel) w_395 v_325 dL_zip_13 (by decide +kernel) rfl ?_
    refine sw_iconst (pc' := 16) (v := 1) rfl dL_zip_15 (by decide +kernel) ?_
    refine sw_ret (v := some _) ⟨dL_zip_16, _, rfl, rfl⟩ ?_
    exact lt_x pe tc_1 pR pF hO hn pk
  · refine swx_catchW (E := "java/lang/IllegalArgumentException") (pre := [(0, 10, 13, 19)]) (suf := [(0, 10, 21, 23)]) (x := (0, 10, 17, 21)) (k0 := 4) (lv' := [(0, _), (1, _), (2, _), (3, _)]) rfl (pas1 ⟨by decide +kernel, _, w_395, .tail _ (.tail _ (.head _))⟩) (by decide +kernel) (by decide +kernel) w_396 v_249 dL_zip_17 (by decide +kernel) rfl ?_
    refine sw_iconst (pc' := 20) (v := 2) rfl dL_zip_19 (by decide +kernel) ?_
    refine sw_ret (v := some _) ⟨dL_zip_20, _, rfl, rfl⟩ ?_
    exact lt_x pe (tc_2 sAI) pR pF hO hn pk
  · refine swx_catchW (E := "java/lang/IllegalStateException") (pre := [(0, 10, 13, 19), (0, 10, 17, 21)]) (suf := []) (x := (0, 10, 21, 23)) (k0 := 4) (lv' := [(0, _), (1, _), (2, _), (3, _)]) rfl (pas2 ⟨by decide +kernel, _, w_395, .tail _ (.tail _ (.tail _ (.tail _ (.head _))))⟩ ⟨by decide +kernel, _, w_396, .tail _ (.tail _ (.tail _ (.tail _ (.tail _ (.head _)))))⟩) (by decide +kernel) (by decide +kernel) w_397 v_378 dL_zip_21 (by decide +kernel) rfl ?_
    refine sw_iconst (pc' := 24) (v := 3) rfl dL_zip_23 (by decide +kernel) ?_
    refine sw_ret (v := some _) ⟨dL_zip_24, _, rfl, rfl⟩ ?_
    exact lt_x pe (tc_3 sSI sSA) pR pF hO hn pk
  refine sw_putN (ci := 5) (k := 1) (pc' := 10) rfl dL_zip_7 (by decide +kernel) (by decide +kernel) v_348 rfl ((pF 158 (by omega) (by omega)).trans hO) (by show 100 ≤ _; omega) (Nat.le_of_ble_eq_true rfl) rfl rfl ?_
  refine sw_nm (fun g1 eg1 => ?_)
  have zg1 := (congrFun eg1 158).trans (up_s (h := p) (i := 158))
  refine sw_goto (tgt := 25) dL_zip_10 (by decide +kernel) ?_
  refine sw_iconst (pc' := 26) (v := 0) rfl dL_zip_25 (by decide +kernel) ?_
  refine sw_ret (v := some _) ⟨dL_zip_26, _, rfl, rfl⟩ ?_
  exact lp_t pe pR pF zg1 (fun i h1 => (congrFun eg1 i).trans ((up_n h1).trans (rfl))) pk pL pS hn
theorem ot_text {σ : CS} {a : Int32} : OT [sI] (opText σ a) := by
  unfold opText
  repeat' first
    | with_reducible exact ot_t
    | with_reducible exact ot_I mm_I_I
    | with_reducible refine ot_Sh mm_I_I (fun _ => ?_)
    | with_reducible refine ot_Wk mm_I_I (fun _ => ?_)
    | with_reducible refine ot_if ?_ ?_
    | exact ot_t
    | exact ot_I mm_I_I
    | refine ot_Sh mm_I_I (fun _ => ?_)
    | refine ot_Wk mm_I_I (fun _ => ?_)
    | refine ot_if ?_ ?_
    | split
theorem L_text {h : AH} {d bc bs n N : Nat} {σ : CS} {a : Int32} {w : Int64} {s : Value} (hR : RC h σ) (hT : TXT h) (hV : IV σ N) (hN : N < 2 ^ 31) (hO : h 158 = .inr (5, [.long w, s])) (hn : 159 ≤ n) (hd : 12 ≤ d) (h1 : 60 ≤ bc) (h2 : 400 ≤ bs) : SM SR0 ML_text d bc bs [.ref 100, .int a, .ref 158] h n (LPt h n (tc sI sI) (opText σ a) (tcT σ a)) := by
  refine sm_ofH pn_OverwalksLaw (by decide +kernel) (Nat.le_of_ble_eq_true rfl) ?_
  refine sw_aload_n (pc' := 1) rfl dL_text_0 rfl ?_
  refine sw_aload_n (pc' := 2) rfl dL_text_1 rfl ?_
  refine sw_iload_n (pc' := 3) rfl dL_text_2 rfl ?_
  refine sw_V (M' := MX3_text) (d' := d - 1) (bc' := 60) (bs' := 400) (ci := 4) (as := [_]) dL_text_3 w_1003 ok_X3_text (m_text hR hT hV hN (by omega) (by omega) (Nat.le_refl _) (Nat.le_refl _)) hR.1 rfl (by omega) (Nat.le_of_ble_eq_true rfl) (by omega) (by omega) (ct_e ot_text (all1 (fun p pn pk pe pR pF => ?_))) (ct_n ot_text (fun p pn x L pk pe pL pS pR pF => ?_))
  · refine swx_catch (E := "java/lang/IndexOutOfBoundsException") (pre := []) (suf := []) (x := (0, 9, 12, 19)) (k0 := 3) (lv' := [(0, _), (1, _), (2, _)]) rfl (pas0) (by decide +kernel) (by decide +kernel) w_395 v_325 dL_text_12 (by decide +kernel) rfl ?_
    refine sw_iconst (pc' := 14) (v := 1) rfl dL_text_13 (by decide +kernel) ?_
    refine sw_ret (v := some _) ⟨dL_text_14, _, rfl, rfl⟩ ?_
    exact lt_x pe tc_1 pR pF hO hn pk
  refine sw_putN (ci := 5) (k := 1) (pc' := 9) rfl dL_text_6 (by decide +kernel) (by decide +kernel) v_348 rfl ((pF 158 (by omega) (by omega)).trans hO) (by show 100 ≤ _; omega) (Nat.le_of_ble_eq_true rfl) rfl rfl ?_
  refine sw_nm (fun g1 eg1 => ?_)
  have zg1 := (congrFun eg1 158).trans (up_s (h := p) (i := 158))
  refine sw_goto (tgt := 15) dL_text_9 (by decide +kernel) ?_
  refine sw_iconst (pc' := 16) (v := 0) rfl dL_text_15 (by decide +kernel) ?_
  refine sw_ret (v := some _) ⟨dL_text_16, _, rfl, rfl⟩ ?_
  exact lp_t pe pR pF zg1 (fun i h1 => (congrFun eg1 i).trans ((up_n h1).trans (rfl))) pk pL pS hn
theorem ot_list {σ : CS} {a : Int32} : OT [sI] (opText σ a) := by
  unfold opText
  repeat' first
    | with_reducible exact ot_t
    | with_reducible exact ot_I mm_I_I
    | with_reducible refine ot_Sh mm_I_I (fun _ => ?_)
    | with_reducible refine ot_Wk mm_I_I (fun _ => ?_)
    | with_reducible refine ot_if ?_ ?_
    | exact ot_t
    | exact ot_I mm_I_I
    | refine ot_Sh mm_I_I (fun _ => ?_)
    | refine ot_Wk mm_I_I (fun _ => ?_)
    | refine ot_if ?_ ?_
    | split
theorem L_list {h : AH} {d bc bs n N : Nat} {σ : CS} {a : Int32} {w : Int64} {s : Value} (hR : RC h σ) (hT : TXT h) (hV : IV σ N) (hN : N < 2 ^ 31) (hO : h 158 = .inr (5, [.long w, s])) (hn : 159 ≤ n) (hd : 12 ≤ d) (h1 : 60 ≤ bc) (h2 : 400 ≤ bs) : SM SR0 ML_list d bc bs [.ref 100, .int a, .ref 158] h n (LPt h n (tc sI sI) (opText σ a) (tcT σ a)) := by
  refine sm_ofH pn_OverwalksLaw (by decide +kernel) (Nat.le_of_ble_eq_true rfl) ?_
  refine sw_aload_n (pc' := 1) rfl dL_list_0 rfl ?_
  refine sw_aload_n (pc' := 2) rfl dL_list_1 rfl ?_
  refine sw_iload_n (pc' := 3) rfl dL_list_2 rfl ?_
  refine sw_V (M' := MX3_list) (d' := d - 1) (bc' := 60) (bs' := 400) (ci := 4) (as := [_]) dL_list_3 w_1010 ok_X3_list (m_list hR hT hV hN (by omega) (by omega) (Nat.le_refl _) (Nat.le_refl _)) hR.1 rfl (by omega) (Nat.le_of_ble_eq_true rfl) (by omega) (by omega) (ct_e ot_list (all1 (fun p pn pk pe pR pF => ?_))) (ct_n ot_list (fun p pn x L pk pe pL pS pR pF => ?_))
  · refine swx_catch (E := "java/lang/IndexOutOfBoundsException") (pre := []) (suf := []) (x := (0, 9, 12, 19)) (k0 := 3) (lv' := [(0, _), (1, _), (2, _)]) rfl (pas0) (by decide +kernel) (by decide +kernel) w_395 v_325 dL_list_12 (by decide +kernel) rfl ?_
    refine sw_iconst (pc' := 14) (v := 1) rfl dL_list_13 (by decide +kernel) ?_
    refine sw_ret (v := some _) ⟨dL_list_14, _, rfl, rfl⟩ ?_
    exact lt_x pe tc_1 pR pF hO hn pk
  refine sw_putN (ci := 5) (k := 1) (pc' := 9) rfl dL_list_6 (by decide +kernel) (by decide +kernel) v_348 rfl ((pF 158 (by omega) (by omega)).trans hO) (by show 100 ≤ _; omega) (Nat.le_of_ble_eq_true rfl) rfl rfl ?_
  refine sw_nm (fun g1 eg1 => ?_)
  have zg1 := (congrFun eg1 158).trans (up_s (h := p) (i := 158))
  refine sw_goto (tgt := 15) dL_list_9 (by decide +kernel) ?_
  refine sw_iconst (pc' := 16) (v := 0) rfl dL_list_15 (by decide +kernel) ?_
  refine sw_ret (v := some _) ⟨dL_list_16, _, rfl, rfl⟩ ?_
  exact lp_t pe pR pF zg1 (fun i h1 => (congrFun eg1 i).trans ((up_n h1).trans (rfl))) pk pL pS hn
theorem ox_size {σ : CS} {a : Int32} : OX [sI] (opSize σ a) := by
  unfold opSize
  repeat' first
    | with_reducible exact ox_i
    | with_reducible exact ox_I mm_I_I
    | with_reducible refine ox_Sh mm_I_I (fun _ => ?_)
    | with_reducible refine ox_Wk mm_I_I (fun _ => ?_)
    | with_reducible refine ox_Rw mm_I_I (fun _ => ?_)
    | with_reducible refine ox_Li mm_I_I (fun _ => ?_)
    | with_reducible refine ox_if ?_ ?_
    | exact ox_i
    | exact ox_I mm_I_I
    | refine ox_Sh mm_I_I (fun _ => ?_)
    | refine ox_Wk mm_I_I (fun _ => ?_)
    | refine ox_Rw mm_I_I (fun _ => ?_)
    | refine ox_Li mm_I_I (fun _ => ?_)
    | refine ox_if ?_ ?_
    | split
theorem L_size {h : AH} {d bc bs n N : Nat} {σ : CS} {a : Int32} {w : Int64} {s : Value} (hR : RC h σ) (hT : TXT h) (hV : IV σ N) (hN : N < 2 ^ 31) (hO : h 158 = .inr (5, [.long w, s])) (hn : 159 ≤ n) (hd : 12 ≤ d) (h1 : 60 ≤ bc) (h2 : 400 ≤ bs) : SM SR0 ML_size d bc bs [.ref 100, .int a, .ref 158] h n (LPo h n (tc sI sI) (opSize σ a)) := by
  refine sm_ofH pn_OverwalksLaw (by decide +kernel) (Nat.le_of_ble_eq_true rfl) ?_
  refine sw_aload_n (pc' := 1) rfl dL_size_0 rfl ?_
  refine sw_aload_n (pc' := 2) rfl dL_size_1 rfl ?_
  refine sw_iload_n (pc' := 3) rfl dL_size_2 rfl ?_
  refine sw_V (M' := MX3_size) (d' := d - 1) (bc' := 20) (bs' := 200) (ci := 4) (as := [_]) dL_size_3 w_1017 ok_X3_size (m_size hR (by omega) (Nat.le_refl _) (Nat.le_refl _)) hR.1 rfl (by omega) (Nat.le_of_ble_eq_true rfl) (by omega) (by omega) (cp_e ox_size (all1 (fun p pe pR pF => ?_))) (cp_n ox_size (fun p v pe pR pF => ?_))
  · refine swx_catch (E := "java/lang/IndexOutOfBoundsException") (pre := []) (suf := []) (x := (0, 10, 13, 19)) (k0 := 3) (lv' := [(0, _), (1, _), (2, _)]) rfl (pas0) (by decide +kernel) (by decide +kernel) w_395 v_325 dL_size_13 (by decide +kernel) rfl ?_
    refine sw_iconst (pc' := 15) (v := 1) rfl dL_size_14 (by decide +kernel) ?_
    refine sw_ret (v := some _) ⟨dL_size_15, _, rfl, rfl⟩ ?_
    exact lp_x pe tc_1 pR pF hO hn (Nat.le_refl _)
  refine sw_i2l (pc' := 7) rfl dL_size_6 ?_
  refine sw_putN (ci := 5) (k := 0) (pc' := 10) rfl dL_size_7 (by decide +kernel) (by decide +kernel) v_347 rfl ((pF 158 (by omega) (by omega)).trans hO) (by show 100 ≤ _; omega) (Nat.le_of_ble_eq_true rfl) rfl rfl ?_
  refine sw_nm (fun g1 eg1 => ?_)
  have zg1 := (congrFun eg1 158).trans (up_s (h := p) (i := 158))
  refine sw_goto (tgt := 16) dL_size_10 (by decide +kernel) ?_
  refine sw_iconst (pc' := 17) (v := 0) rfl dL_size_16 (by decide +kernel) ?_
  refine sw_ret (v := some _) ⟨dL_size_17, _, rfl, rfl⟩ ?_
  exact lp_v pe pR pF zg1 rfl (fun i h1 => (congrFun eg1 i).trans ((up_n h1).trans (rfl)))
theorem ox_isEmpty {σ : CS} {a : Int32} : OX [sI] (opIsEmpty σ a) := by
  unfold opIsEmpty
  repeat' first
    | with_reducible exact ox_i
    | with_reducible exact ox_I mm_I_I
    | with_reducible refine ox_Sh mm_I_I (fun _ => ?_)
    | with_reducible refine ox_Wk mm_I_I (fun _ => ?_)
    | with_reducible refine ox_Rw mm_I_I (fun _ => ?_)
    | with_reducible refine ox_Li mm_I_I (fun _ => ?_)
    | with_reducible refine ox_if ?_ ?_
    | exact ox_i
    | exact ox_I mm_I_I
    | refine ox_Sh mm_I_I (fun _ => ?_)
    | refine ox_Wk mm_I_I (fun _ => ?_)
    | refine ox_Rw mm_I_I (fun _ => ?_)
    | refine ox_Li mm_I_I (fun _ => ?_)
    | refine ox_if ?_ ?_
    | split
theorem bo_isEmpty {σ : CS} {a : Int32} {v : Int32} (e : (opIsEmpty σ a).1 = rI v) : v = 0 ∨ v = 1 := by
  unfold opIsEmpty onSh at e
  split at e
  · cases e
  · cases e
    cases decide (σ.2.1 (a.toNatClampNeg) = 0)
    · exact Or.inl rfl
    · exact Or.inr rfl
theorem L_isEmpty {h : AH} {d bc bs n N : Nat} {σ : CS} {a : Int32} {w : Int64} {s : Value} (hR : RC h σ) (hT : TXT h) (hV : IV σ N) (hN : N < 2 ^ 31) (hO : h 158 = .inr (5, [.long w, s])) (hn : 159 ≤ n) (hd : 12 ≤ d) (h1 : 60 ≤ bc) (h2 : 400 ≤ bs) : SM SR0 ML_isEmpty d bc bs [.ref 100, .int a, .ref 158] h n (LPo h n (tc sI sI) (opIsEmpty σ a)) := by
  refine sm_ofH pn_OverwalksLaw (by decide +kernel) (Nat.le_of_ble_eq_true rfl) ?_
  refine sw_aload_n (pc' := 1) rfl dL_isEmpty_0 rfl ?_
  refine sw_aload_n (pc' := 2) rfl dL_isEmpty_1 rfl ?_
  refine sw_iload_n (pc' := 3) rfl dL_isEmpty_2 rfl ?_
  refine sw_V (M' := MX3_isEmpty) (d' := d - 1) (bc' := 20) (bs' := 200) (ci := 4) (as := [_]) dL_isEmpty_3 w_1024 ok_X3_isEmpty (m_isEmpty hR (by omega) (Nat.le_refl _) (Nat.le_refl _)) hR.1 rfl (by omega) (Nat.le_of_ble_eq_true rfl) (by omega) (by omega) (cp_e ox_isEmpty (all1 (fun p pe pR pF => ?_))) (cp_n ox_isEmpty (fun p v pe pR pF => ?_))
  · refine swx_catch (E := "java/lang/IndexOutOfBoundsException") (pre := []) (suf := []) (x := (0, 17, 20, 19)) (k0 := 3) (lv' := [(0, _), (1, _), (2, _)]) rfl (pas0) (by decide +kernel) (by decide +kernel) w_395 v_325 dL_isEmpty_20 (by decide +kernel) rfl ?_
    refine sw_iconst (pc' := 22) (v := 1) rfl dL_isEmpty_21 (by decide +kernel) ?_
    refine sw_ret (v := some _) ⟨dL_isEmpty_22, _, rfl, rfl⟩ ?_
    exact lp_x pe tc_1 pR pF hO hn (Nat.le_refl _)
  refine sw_if_eq (pc' := 9) (tgt := 13) rfl dL_isEmpty_6 (by decide +kernel) (fun c6 => ?_) (fun c6 => ?_)
  · refine sw_lconst (pc' := 14) (v := 0) rfl dL_isEmpty_13 (by decide +kernel) ?_
    refine sw_putN (ci := 5) (k := 0) (pc' := 17) rfl dL_isEmpty_14 (by decide +kernel) (by decide +kernel) v_347 rfl ((pF 158 (by omega) (by omega)).trans hO) (by show 100 ≤ _; omega) (Nat.le_of_ble_eq_true rfl) rfl rfl ?_
    refine sw_nm (fun g1 eg1 => ?_)
    have zg1 := (congrFun eg1 158).trans (up_s (h := p) (i := 158))
    refine sw_goto (tgt := 23) dL_isEmpty_17 (by decide +kernel) ?_
    refine sw_iconst (pc' := 24) (v := 0) rfl dL_isEmpty_23 (by decide +kernel) ?_
    refine sw_ret (v := some _) ⟨dL_isEmpty_24, _, rfl, rfl⟩ ?_
    exact lp_v pe pR pF zg1 (by rw [c6]; rfl) (fun i h1 => (congrFun eg1 i).trans ((up_n h1).trans (rfl)))
  · refine sw_lconst (pc' := 10) (v := 1) rfl dL_isEmpty_9 (by decide +kernel) ?_
    refine sw_goto (tgt := 14) dL_isEmpty_10 (by decide +kernel) ?_
    refine sw_putN (ci := 5) (k := 0) (pc' := 17) rfl dL_isEmpty_14 (by decide +kernel) (by decide +kernel) v_347 rfl ((pF 158 (by omega) (by omega)).trans hO) (by show 100 ≤ _; omega) (Nat.le_of_ble_eq_true rfl) rfl rfl ?_
    refine sw_nm (fun g2 eg2 => ?_)
    have zg2 := (congrFun eg2 158).trans (up_s (h := p) (i := 158))
    refine sw_goto (tgt := 23) dL_isEmpty_17 (by decide +kernel) ?_
    refine sw_iconst (pc' := 24) (v := 0) rfl dL_isEmpty_23 (by decide +kernel) ?_
    refine sw_ret (v := some _) ⟨dL_isEmpty_24, _, rfl, rfl⟩ ?_
    exact lp_v pe pR pF zg2 ((bo_isEmpty pe).elim (fun e => absurd e c6) (fun e => by rw [e]; rfl)) (fun i h1 => (congrFun eg2 i).trans ((up_n h1).trans (rfl)))
theorem ox_has {σ : CS} {a x : Int32} : OX [sI, sA] (opHas σ a x) := by
  unfold opHas
  repeat' first
    | with_reducible exact ox_i
    | with_reducible exact ox_I mm_IA_I
    | with_reducible exact ox_A mm_IA_A
    | with_reducible refine ox_Sh mm_IA_I (fun _ => ?_)
    | with_reducible refine ox_Wk mm_IA_I (fun _ => ?_)
    | with_reducible refine ox_Rw mm_IA_I (fun _ => ?_)
    | with_reducible refine ox_Li mm_IA_I (fun _ => ?_)
    | with_reducible refine ox_if ?_ ?_
    | exact ox_i
    | exact ox_I mm_IA_I
    | exact ox_A mm_IA_A
    | refine ox_Sh mm_IA_I (fun _ => ?_)
    | refine ox_Wk mm_IA_I (fun _ => ?_)
    | refine ox_Rw mm_IA_I (fun _ => ?_)
    | refine ox_Li mm_IA_I (fun _ => ?_)
    | refine ox_if ?_ ?_
    | split
theorem L_has {h : AH} {d bc bs n N : Nat} {σ : CS} {a x : Int32} {w : Int64} {s : Value} (hR : RC h σ) (hT : TXT h) (hV : IV σ N) (hN : N < 2 ^ 31) (hO : h 158 = .inr (5, [.long w, s])) (hn : 159 ≤ n) (hd : 12 ≤ d) (h1 : 60 ≤ bc) (h2 : 400 ≤ bs) : SM SR0 ML_has d bc bs [.ref 100, .int a, .int x, .ref 158] h n (LPo h n (tc sI sA) (opHas σ a x)) := by
  refine sm_ofH pn_OverwalksLaw (by decide +kernel) (Nat.le_of_ble_eq_true rfl) ?_
  refine sw_aload_n (pc' := 1) rfl dL_has_0 rfl ?_
  refine sw_aload_n (pc' := 2) rfl dL_has_1 rfl ?_
  refine sw_iload_n (pc' := 3) rfl dL_has_2 rfl ?_
  refine sw_iload_n (pc' := 4) rfl dL_has_3 rfl ?_
  refine sw_V (M' := MX3_has) (d' := d - 1) (bc' := 20) (bs' := 200) (ci := 4) (as := [_, _]) dL_has_4 w_1031 ok_X3_has (m_has hR (by omega) (Nat.le_refl _) (Nat.le_refl _)) hR.1 rfl (by omega) (Nat.le_of_ble_eq_true rfl) (by omega) (by omega) (cp_e ox_has (all2 (fun p pe pR pF => ?_) (fun p pe pR pF => ?_))) (cp_n ox_has (fun p v pe pR pF => ?_))
  · refine swx_catchW (E := "java/lang/IndexOutOfBoundsException") (pre := []) (suf := [(0, 11, 18, 21)]) (x := (0, 11, 14, 19)) (k0 := 4) (lv' := [(0, _), (1, _), (2, _), (3, _)]) rfl (pas0) (by decide +kernel) (by decide +kernel) w_395 v_325 dL_has_14 (by decide +kernel) rfl ?_
    refine sw_iconst (pc' := 17) (v := 1) rfl dL_has_16 (by decide +kernel) ?_
    refine sw_ret (v := some _) ⟨dL_has_17, _, rfl, rfl⟩ ?_
    exact lp_x pe tc_1 pR pF hO hn (Nat.le_refl _)
  · refine swx_catchW (E := "java/lang/IllegalArgumentException") (pre := [(0, 11, 14, 19)]) (suf := []) (x := (0, 11, 18, 21)) (k0 := 4) (lv' := [(0, _), (1, _), (2, _), (3, _)]) rfl (pas1 ⟨by decide +kernel, _, w_395, .tail _ (.tail _ (.head _))⟩) (by decide +kernel) (by decide +kernel) w_396 v_249 dL_has_18 (by decide +kernel) rfl ?_
    refine sw_iconst (pc' := 21) (v := 2) rfl dL_has_20 (by decide +kernel) ?_
    refine sw_ret (v := some _) ⟨dL_has_21, _, rfl, rfl⟩ ?_
    exact lp_x pe (tc_2 sAI) pR pF hO hn (Nat.le_refl _)
  refine sw_i2l (pc' := 8) rfl dL_has_7 ?_
  refine sw_putN (ci := 5) (k := 0) (pc' := 11) rfl dL_has_8 (by decide +kernel) (by decide +kernel) v_347 rfl ((pF 158 (by omega) (by omega)).trans hO) (by show 100 ≤ _; omega) (Nat.le_of_ble_eq_true rfl) rfl rfl ?_
  refine sw_nm (fun g1 eg1 => ?_)
  have zg1 := (congrFun eg1 158).trans (up_s (h := p) (i := 158))
  refine sw_goto (tgt := 22) dL_has_11 (by decide +kernel) ?_
  refine sw_iconst (pc' := 23) (v := 0) rfl dL_has_22 (by decide +kernel) ?_
  refine sw_ret (v := some _) ⟨dL_has_23, _, rfl, rfl⟩ ?_
  exact lp_v pe pR pF zg1 rfl (fun i h1 => (congrFun eg1 i).trans ((up_n h1).trans (rfl)))
theorem ox_often {σ : CS} {a x : Int32} : OX [sI, sA] (opOften σ a x) := by
  unfold opOften
  repeat' first
    | with_reducible exact ox_i
    | with_reducible exact ox_I mm_IA_I
    | with_reducible exact ox_A mm_IA_A
    | with_reducible refine ox_Sh mm_IA_I (fun _ => ?_)
    | with_reducible refine ox_Wk mm_IA_I (fun _ => ?_)
    | with_reducible refine ox_Rw mm_IA_I (fun _ => ?_)
    | with_reducible refine ox_Li mm_IA_I (fun _ => ?_)
    | with_reducible refine ox_if ?_ ?_
    | exact ox_i
    | exact ox_I mm_IA_I
    | exact ox_A mm_IA_A
    | refine ox_Sh mm_IA_I (fun _ => ?_)
    | refine ox_Wk mm_IA_I (fun _ => ?_)
    | refine ox_Rw mm_IA_I (fun _ => ?_)
    | refine ox_Li mm_IA_I (fun _ => ?_)
    | refine ox_if ?_ ?_
    | split
theorem L_often {h : AH} {d bc bs n N : Nat} {σ : CS} {a x : Int32} {w : Int64} {s : Value} (hR : RC h σ) (hT : TXT h) (hV : IV σ N) (hN : N < 2 ^ 31) (hO : h 158 = .inr (5, [.long w, s])) (hn : 159 ≤ n) (hd : 12 ≤ d) (h1 : 60 ≤ bc) (h2 : 400 ≤ bs) : SM SR0 ML_often d bc bs [.ref 100, .int a, .int x, .ref 158] h n (LPo h n (tc sI sA) (opOften σ a x)) := by
  refine sm_ofH pn_OverwalksLaw (by decide +kernel) (Nat.le_of_ble_eq_true rfl) ?_
  refine sw_aload_n (pc' := 1) rfl dL_often_0 rfl ?_
  refine sw_aload_n (pc' := 2) rfl dL_often_1 rfl ?_
  refine sw_iload_n (pc' := 3) rfl dL_often_2 rfl ?_
  refine sw_iload_n (pc' := 4) rfl dL_often_3 rfl ?_
  refine sw_V (M' := MX3_often) (d' := d - 1) (bc' := 20) (bs' := 200) (ci := 4) (as := [_, _]) dL_often_4 w_1038 ok_X3_often (m_often hR (by omega) (Nat.le_refl _) (Nat.le_refl _)) hR.1 rfl (by omega) (Nat.le_of_ble_eq_true rfl) (by omega) (by omega) (cp_e ox_often (all2 (fun p pe pR pF => ?_) (fun p pe pR pF => ?_))) (cp_n ox_often (fun p v pe pR pF => ?_))
  · refine swx_catchW (E := "java/lang/IndexOutOfBoundsException") (pre := []) (suf := [(0, 11, 18, 21)]) (x := (0, 11, 14, 19)) (k0 := 4) (lv' := [(0, _), (1, _), (2, _), (3, _)]) rfl (pas0) (by decide +kernel) (by decide +kernel) w_395 v_325 dL_often_14 (by decide +kernel) rfl ?_
    refine sw_iconst (pc' := 17) (v := 1) rfl dL_often_16 (by decide +kernel) ?_
    refine sw_ret (v := some _) ⟨dL_often_17, _, rfl, rfl⟩ ?_
    exact lp_x pe tc_1 pR pF hO hn (Nat.le_refl _)
  · refine swx_catchW (E := "java/lang/IllegalArgumentException") (pre := [(0, 11, 14, 19)]) (suf := []) (x := (0, 11, 18, 21)) (k0 := 4) (lv' := [(0, _), (1, _), (2, _), (3, _)]) rfl (pas1 ⟨by decide +kernel, _, w_395, .tail _ (.tail _ (.head _))⟩) (by decide +kernel) (by decide +kernel) w_396 v_249 dL_often_18 (by decide +kernel) rfl ?_
    refine sw_iconst (pc' := 21) (v := 2) rfl dL_often_20 (by decide +kernel) ?_
    refine sw_ret (v := some _) ⟨dL_often_21, _, rfl, rfl⟩ ?_
    exact lp_x pe (tc_2 sAI) pR pF hO hn (Nat.le_refl _)
  refine sw_i2l (pc' := 8) rfl dL_often_7 ?_
  refine sw_putN (ci := 5) (k := 0) (pc' := 11) rfl dL_often_8 (by decide +kernel) (by decide +kernel) v_347 rfl ((pF 158 (by omega) (by omega)).trans hO) (by show 100 ≤ _; omega) (Nat.le_of_ble_eq_true rfl) rfl rfl ?_
  refine sw_nm (fun g1 eg1 => ?_)
  have zg1 := (congrFun eg1 158).trans (up_s (h := p) (i := 158))
  refine sw_goto (tgt := 22) dL_often_11 (by decide +kernel) ?_
  refine sw_iconst (pc' := 23) (v := 0) rfl dL_often_22 (by decide +kernel) ?_
  refine sw_ret (v := some _) ⟨dL_often_23, _, rfl, rfl⟩ ?_
  exact lp_v pe pR pF zg1 rfl (fun i h1 => (congrFun eg1 i).trans ((up_n h1).trans (rfl)))
theorem ox_placeOf {σ : CS} {a x y : Int32} : OX [sI, sA] (opPlaceOf σ a x y) := by
  unfold opPlaceOf
  repeat' first
    | with_reducible exact ox_i
    | with_reducible exact ox_I mm_IA_I
    | with_reducible exact ox_A mm_IA_A
    | with_reducible refine ox_Sh mm_IA_I (fun _ => ?_)
    | with_reducible refine ox_Wk mm_IA_I (fun _ => ?_)
    | with_reducible refine ox_Rw mm_IA_I (fun _ => ?_)
    | with_reducible refine ox_Li mm_IA_I (fun _ => ?_)
    | with_reducible refine ox_if ?_ ?_
    | exact ox_i
    | exact ox_I mm_IA_I
    | exact ox_A mm_IA_A
    | refine ox_Sh mm_IA_I (fun _ => ?_)
    | refine ox_Wk mm_IA_I (fun _ => ?_)
    | refine ox_Rw mm_IA_I (fun _ => ?_)
    | refine ox_Li mm_IA_I (fun _ => ?_)
    | refine ox_if ?_ ?_
    | split
theorem L_placeOf {h : AH} {d bc bs n N : Nat} {σ : CS} {a x y : Int32} {w : Int64} {s : Value} (hR : RC h σ) (hT : TXT h) (hV : IV σ N) (hN : N < 2 ^ 31) (hO : h 158 = .inr (5, [.long w, s])) (hn : 159 ≤ n) (hd : 12 ≤ d) (h1 : 60 ≤ bc) (h2 : 400 ≤ bs) : SM SR0 ML_placeOf d bc bs [.ref 100, .int a, .int x, .int y, .ref 158] h n (LPo h n (tc sI sA) (opPlaceOf σ a x y)) := by
  refine sm_ofH pn_OverwalksLaw (by decide +kernel) (Nat.le_of_ble_eq_true rfl) ?_
  refine sw_aload (pc' := 2) rfl dL_placeOf_0 rfl ?_
  refine sw_aload_n (pc' := 3) rfl dL_placeOf_2 rfl ?_
  refine sw_iload_n (pc' := 4) rfl dL_placeOf_3 rfl ?_
  refine sw_iload_n (pc' := 5) rfl dL_placeOf_4 rfl ?_
  refine sw_iload_n (pc' := 6) rfl dL_placeOf_5 rfl ?_
  refine sw_V (M' := MX3_placeOf) (d' := d - 1) (bc' := 20) (bs' := 200) (ci := 4) (as := [_, _, _]) dL_placeOf_6 w_1045 ok_X3_placeOf (m_placeOf hR (by omega) (Nat.le_refl _) (Nat.le_refl _)) hR.1 rfl (by omega) (Nat.le_of_ble_eq_true rfl) (by omega) (by omega) (cp_e ox_placeOf (all2 (fun p pe pR pF => ?_) (fun p pe pR pF => ?_))) (cp_n ox_placeOf (fun p v pe pR pF => ?_))
  · refine swx_catchW (E := "java/lang/IndexOutOfBoundsException") (pre := []) (suf := [(0, 13, 20, 21)]) (x := (0, 13, 16, 19)) (k0 := 5) (lv' := [(0, _), (1, _), (2, _), (3, _), (4, _)]) rfl (pas0) (by decide +kernel) (by decide +kernel) w_395 v_325 dL_placeOf_16 (by decide +kernel) rfl ?_
    refine sw_iconst (pc' := 19) (v := 1) rfl dL_placeOf_18 (by decide +kernel) ?_
    refine sw_ret (v := some _) ⟨dL_placeOf_19, _, rfl, rfl⟩ ?_
    exact lp_x pe tc_1 pR pF hO hn (Nat.le_refl _)
  · refine swx_catchW (E := "java/lang/IllegalArgumentException") (pre := [(0, 13, 16, 19)]) (suf := []) (x := (0, 13, 20, 21)) (k0 := 5) (lv' := [(0, _), (1, _), (2, _), (3, _), (4, _)]) rfl (pas1 ⟨by decide +kernel, _, w_395, .tail _ (.tail _ (.head _))⟩) (by decide +kernel) (by decide +kernel) w_396 v_249 dL_placeOf_20 (by decide +kernel) rfl ?_
    refine sw_iconst (pc' := 23) (v := 2) rfl dL_placeOf_22 (by decide +kernel) ?_
    refine sw_ret (v := some _) ⟨dL_placeOf_23, _, rfl, rfl⟩ ?_
    exact lp_x pe (tc_2 sAI) pR pF hO hn (Nat.le_refl _)
  refine sw_i2l (pc' := 10) rfl dL_placeOf_9 ?_
  refine sw_putN (ci := 5) (k := 0) (pc' := 13) rfl dL_placeOf_10 (by decide +kernel) (by decide +kernel) v_347 rfl ((pF 158 (by omega) (by omega)).trans hO) (by show 100 ≤ _; omega) (Nat.le_of_ble_eq_true rfl) rfl rfl ?_
  refine sw_nm (fun g1 eg1 => ?_)
  have zg1 := (congrFun eg1 158).trans (up_s (h := p) (i := 158))
  refine sw_goto (tgt := 24) dL_placeOf_13 (by decide +kernel) ?_
  refine sw_iconst (pc' := 25) (v := 0) rfl dL_placeOf_24 (by decide +kernel) ?_
  refine sw_ret (v := some _) ⟨dL_placeOf_25, _, rfl, rfl⟩ ?_
  exact lp_v pe pR pF zg1 rfl (fun i h1 => (congrFun eg1 i).trans ((up_n h1).trans (rfl)))
theorem ox_disjoint {σ : CS} {a x : Int32} : OX [sI] (opDisjoint σ a x) := by
  unfold opDisjoint
  repeat' first
    | with_reducible exact ox_i
    | with_reducible exact ox_I mm_I_I
    | with_reducible refine ox_Sh mm_I_I (fun _ => ?_)
    | with_reducible refine ox_Wk mm_I_I (fun _ => ?_)
    | with_reducible refine ox_Rw mm_I_I (fun _ => ?_)
    | with_reducible refine ox_Li mm_I_I (fun _ => ?_)
    | with_reducible refine ox_if ?_ ?_
    | exact ox_i
    | exact ox_I mm_I_I
    | refine ox_Sh mm_I_I (fun _ => ?_)
    | refine ox_Wk mm_I_I (fun _ => ?_)
    | refine ox_Rw mm_I_I (fun _ => ?_)
    | refine ox_Li mm_I_I (fun _ => ?_)
    | refine ox_if ?_ ?_
    | split
theorem L_disjoint {h : AH} {d bc bs n N : Nat} {σ : CS} {a x : Int32} {w : Int64} {s : Value} (hR : RC h σ) (hT : TXT h) (hV : IV σ N) (hN : N < 2 ^ 31) (hO : h 158 = .inr (5, [.long w, s])) (hn : 159 ≤ n) (hd : 12 ≤ d) (h1 : 60 ≤ bc) (h2 : 400 ≤ bs) : SM SR0 ML_disjoint d bc bs [.ref 100, .int a, .int x, .ref 158] h n (LPo h n (tc sI sI) (opDisjoint σ a x)) := by
  refine sm_ofH pn_OverwalksLaw (by decide +kernel) (Nat.le_of_ble_eq_true rfl) ?_
  refine sw_aload_n (pc' := 1) rfl dL_disjoint_0 rfl ?_
  refine sw_aload_n (pc' := 2) rfl dL_disjoint_1 rfl ?_
  refine sw_iload_n (pc' := 3) rfl dL_disjoint_2 rfl ?_
  refine sw_iload_n (pc' := 4) rfl dL_disjoint_3 rfl ?_
  refine sw_V (M' := MX3_disjoint) (d' := d - 1) (bc' := 20) (bs' := 200) (ci := 4) (as := [_, _]) dL_disjoint_4 w_1056 ok_X3_disjoint (m_disjoint hR (by omega) (Nat.le_refl _) (Nat.le_refl _)) hR.1 rfl (by omega) (Nat.le_of_ble_eq_true rfl) (by omega) (by omega) (cp_e ox_disjoint (all1 (fun p pe pR pF => ?_))) (cp_n ox_disjoint (fun p v pe pR pF => ?_))
  · refine swx_catchW (E := "java/lang/IndexOutOfBoundsException") (pre := []) (suf := []) (x := (0, 11, 14, 19)) (k0 := 4) (lv' := [(0, _), (1, _), (2, _), (3, _)]) rfl (pas0) (by decide +kernel) (by decide +kernel) w_395 v_325 dL_disjoint_14 (by decide +kernel) rfl ?_
    refine sw_iconst (pc' := 17) (v := 1) rfl dL_disjoint_16 (by decide +kernel) ?_
    refine sw_ret (v := some _) ⟨dL_disjoint_17, _, rfl, rfl⟩ ?_
    exact lp_x pe tc_1 pR pF hO hn (Nat.le_refl _)
  refine sw_i2l (pc' := 8) rfl dL_disjoint_7 ?_
  refine sw_putN (ci := 5) (k := 0) (pc' := 11) rfl dL_disjoint_8 (by decide +kernel) (by decide +kernel) v_347 rfl ((pF 158 (by omega) (by omega)).trans hO) (by show 100 ≤ _; omega) (Nat.le_of_ble_eq_true rfl) rfl rfl ?_
  refine sw_nm (fun g1 eg1 => ?_)
  have zg1 := (congrFun eg1 158).trans (up_s (h := p) (i := 158))
  refine sw_goto (tgt := 18) dL_disjoint_11 (by decide +kernel) ?_
  refine sw_iconst (pc' := 19) (v := 0) rfl dL_disjoint_18 (by decide +kernel) ?_
  refine sw_ret (v := some _) ⟨dL_disjoint_19, _, rfl, rfl⟩ ?_
  exact lp_v pe pR pF zg1 rfl (fun i h1 => (congrFun eg1 i).trans ((up_n h1).trans (rfl)))
theorem ox_end {σ : CS} {a y : Int32} : OX [sI] (opEnd σ a y) := by
  unfold opEnd
  repeat' first
    | with_reducible exact ox_i
    | with_reducible exact ox_I mm_I_I
    | with_reducible refine ox_Sh mm_I_I (fun _ => ?_)
    | with_reducible refine ox_Wk mm_I_I (fun _ => ?_)
    | with_reducible refine ox_Rw mm_I_I (fun _ => ?_)
    | with_reducible refine ox_Li mm_I_I (fun _ => ?_)
    | with_reducible refine ox_if ?_ ?_
    | exact ox_i
    | exact ox_I mm_I_I
    | refine ox_Sh mm_I_I (fun _ => ?_)
    | refine ox_Wk mm_I_I (fun _ => ?_)
    | refine ox_Rw mm_I_I (fun _ => ?_)
    | refine ox_Li mm_I_I (fun _ => ?_)
    | refine ox_if ?_ ?_
    | split
theorem L_end {h : AH} {d bc bs n N : Nat} {σ : CS} {a y : Int32} {w : Int64} {s : Value} (hR : RC h σ) (hT : TXT h) (hV : IV σ N) (hN : N < 2 ^ 31) (hO : h 158 = .inr (5, [.long w, s])) (hn : 159 ≤ n) (hd : 12 ≤ d) (h1 : 60 ≤ bc) (h2 : 400 ≤ bs) : SM SR0 ML_end d bc bs [.ref 100, .int a, .int y, .ref 158] h n (LPo h n (tc sI sI) (opEnd σ a y)) := by
  refine sm_ofH pn_OverwalksLaw (by decide +kernel) (Nat.le_of_ble_eq_true rfl) ?_
  refine sw_aload_n (pc' := 1) rfl dL_end_0 rfl ?_
  refine sw_aload_n (pc' := 2) rfl dL_end_1 rfl ?_
  refine sw_iload_n (pc' := 3) rfl dL_end_2 rfl ?_
  refine sw_iload_n (pc' := 4) rfl dL_end_3 rfl ?_
  refine sw_V (M' := MX3_end) (d' := d - 1) (bc' := 20) (bs' := 200) (ci := 4) (as := [_, _]) dL_end_4 w_1063 ok_X3_end (m_end hR (by omega) (Nat.le_refl _) (Nat.le_refl _)) hR.1 rfl (by omega) (Nat.le_of_ble_eq_true rfl) (by omega) (by omega) (cp_e ox_end (all1 (fun p pe pR pF => ?_))) (cp_n ox_end (fun p v pe pR pF => ?_))
  · refine swx_catchW (E := "java/lang/IndexOutOfBoundsException") (pre := []) (suf := []) (x := (0, 11, 14, 19)) (k0 := 4) (lv' := [(0, _), (1, _), (2, _), (3, _)]) rfl (pas0) (by decide +kernel) (by decide +kernel) w_395 v_325 dL_end_14 (by decide +kernel) rfl ?_
    refine sw_iconst (pc' := 17) (v := 1) rfl dL_end_16 (by decide +kernel) ?_
    refine sw_ret (v := some _) ⟨dL_end_17, _, rfl, rfl⟩ ?_
    exact lp_x pe tc_1 pR pF hO hn (Nat.le_refl _)
  refine sw_i2l (pc' := 8) rfl dL_end_7 ?_
  refine sw_putN (ci := 5) (k := 0) (pc' := 11) rfl dL_end_8 (by decide +kernel) (by decide +kernel) v_347 rfl ((pF 158 (by omega) (by omega)).trans hO) (by show 100 ≤ _; omega) (Nat.le_of_ble_eq_true rfl) rfl rfl ?_
  refine sw_nm (fun g1 eg1 => ?_)
  have zg1 := (congrFun eg1 158).trans (up_s (h := p) (i := 158))
  refine sw_goto (tgt := 18) dL_end_11 (by decide +kernel) ?_
  refine sw_iconst (pc' := 19) (v := 0) rfl dL_end_18 (by decide +kernel) ?_
  refine sw_ret (v := some _) ⟨dL_end_19, _, rfl, rfl⟩ ?_
  exact lp_v pe pR pF zg1 rfl (fun i h1 => (congrFun eg1 i).trans ((up_n h1).trans (rfl)))
theorem ox_code {σ : CS} {a : Int32} : OX [sI] (opCode σ a) := by
  unfold opCode
  repeat' first
    | with_reducible exact ox_i
    | with_reducible exact ox_I mm_I_I
    | with_reducible refine ox_Sh mm_I_I (fun _ => ?_)
    | with_reducible refine ox_Wk mm_I_I (fun _ => ?_)
    | with_reducible refine ox_Rw mm_I_I (fun _ => ?_)
    | with_reducible refine ox_Li mm_I_I (fun _ => ?_)
    | with_reducible refine ox_if ?_ ?_
    | exact ox_i
    | exact ox_I mm_I_I
    | refine ox_Sh mm_I_I (fun _ => ?_)
    | refine ox_Wk mm_I_I (fun _ => ?_)
    | refine ox_Rw mm_I_I (fun _ => ?_)
    | refine ox_Li mm_I_I (fun _ => ?_)
    | refine ox_if ?_ ?_
    | split
theorem L_code {h : AH} {d bc bs n N : Nat} {σ : CS} {a : Int32} {w : Int64} {s : Value} (hR : RC h σ) (hT : TXT h) (hV : IV σ N) (hN : N < 2 ^ 31) (hO : h 158 = .inr (5, [.long w, s])) (hn : 159 ≤ n) (hd : 12 ≤ d) (h1 : 60 ≤ bc) (h2 : 400 ≤ bs) : SM SR0 ML_code d bc bs [.ref 100, .int a, .ref 158] h n (LPo h n (tc sI sI) (opCode σ a)) := by
  refine sm_ofH pn_OverwalksLaw (by decide +kernel) (Nat.le_of_ble_eq_true rfl) ?_
  refine sw_aload_n (pc' := 1) rfl dL_code_0 rfl ?_
  refine sw_aload_n (pc' := 2) rfl dL_code_1 rfl ?_
  refine sw_iload_n (pc' := 3) rfl dL_code_2 rfl ?_
  refine sw_V (M' := MX3_code) (d' := d - 1) (bc' := 20) (bs' := 200) (ci := 4) (as := [_]) dL_code_3 w_1072 ok_X3_code (m_code hR (by omega) (Nat.le_refl _) (Nat.le_refl _)) hR.1 rfl (by omega) (Nat.le_of_ble_eq_true rfl) (by omega) (by omega) (cp_e ox_code (all1 (fun p pe pR pF => ?_))) (cp_n ox_code (fun p v pe pR pF => ?_))
  · refine swx_catch (E := "java/lang/IndexOutOfBoundsException") (pre := []) (suf := []) (x := (0, 10, 13, 19)) (k0 := 3) (lv' := [(0, _), (1, _), (2, _)]) rfl (pas0) (by decide +kernel) (by decide +kernel) w_395 v_325 dL_code_13 (by decide +kernel) rfl ?_
    refine sw_iconst (pc' := 15) (v := 1) rfl dL_code_14 (by decide +kernel) ?_
    refine sw_ret (v := some _) ⟨dL_code_15, _, rfl, rfl⟩ ?_
    exact lp_x pe tc_1 pR pF hO hn (Nat.le_refl _)
  refine sw_i2l (pc' := 7) rfl dL_code_6 ?_
  refine sw_putN (ci := 5) (k := 0) (pc' := 10) rfl dL_code_7 (by decide +kernel) (by decide +kernel) v_347 rfl ((pF 158 (by omega) (by omega)).trans hO) (by show 100 ≤ _; omega) (Nat.le_of_ble_eq_true rfl) rfl rfl ?_
  refine sw_nm (fun g1 eg1 => ?_)
  have zg1 := (congrFun eg1 158).trans (up_s (h := p) (i := 158))
  refine sw_goto (tgt := 16) dL_code_10 (by decide +kernel) ?_
  refine sw_iconst (pc' := 17) (v := 0) rfl dL_code_16 (by decide +kernel) ?_
  refine sw_ret (v := some _) ⟨dL_code_17, _, rfl, rfl⟩ ?_
  exact lp_v pe pR pF zg1 rfl (fun i h1 => (congrFun eg1 i).trans ((up_n h1).trans (rfl)))
theorem ox_areAlike {σ : CS} {a x : Int32} : OX [sI] (opAreAlike σ a x) := by
  unfold opAreAlike
  repeat' first
    | with_reducible exact ox_i
    | with_reducible exact ox_I mm_I_I
    | with_reducible refine ox_Sh mm_I_I (fun _ => ?_)
    | with_reducible refine ox_Wk mm_I_I (fun _ => ?_)
    | with_reducible refine ox_Rw mm_I_I (fun _ => ?_)
    | with_reducible refine ox_Li mm_I_I (fun _ => ?_)
    | with_reducible refine ox_if ?_ ?_
    | exact ox_i
    | exact ox_I mm_I_I
    | refine ox_Sh mm_I_I (fun _ => ?_)
    | refine ox_Wk mm_I_I (fun _ => ?_)
    | refine ox_Rw mm_I_I (fun _ => ?_)
    | refine ox_Li mm_I_I (fun _ => ?_)
    | refine ox_if ?_ ?_
    | split
theorem bo_areAlike {σ : CS} {a x : Int32} {v : Int32} (e : (opAreAlike σ a x).1 = rI v) : v = 0 ∨ v = 1 := by
  unfold opAreAlike onSh at e
  split at e
  · cases e
  · dsimp only at e
    split at e
    · cases e
    · cases e
      cases hsB (σ.1 a.toNatClampNeg) (σ.1 x.toNatClampNeg) (σ.2.1 a.toNatClampNeg) (σ.2.1 x.toNatClampNeg)
      · exact Or.inl rfl
      · exact Or.inr rfl
theorem L_areAlike {h : AH} {d bc bs n N : Nat} {σ : CS} {a x : Int32} {w : Int64} {s : Value} (hR : RC h σ) (hT : TXT h) (hV : IV σ N) (hN : N < 2 ^ 31) (hO : h 158 = .inr (5, [.long w, s])) (hn : 159 ≤ n) (hd : 12 ≤ d) (h1 : 60 ≤ bc) (h2 : 400 ≤ bs) : SM SR0 ML_areAlike d bc bs [.ref 100, .int a, .int x, .ref 158] h n (LPo h n (tc sI sI) (opAreAlike σ a x)) := by
  refine sm_ofH pn_OverwalksLaw (by decide +kernel) (Nat.le_of_ble_eq_true rfl) ?_
  refine sw_aload_n (pc' := 1) rfl dL_areAlike_0 rfl ?_
  refine sw_aload_n (pc' := 2) rfl dL_areAlike_1 rfl ?_
  refine sw_iload_n (pc' := 3) rfl dL_areAlike_2 rfl ?_
  refine sw_iload_n (pc' := 4) rfl dL_areAlike_3 rfl ?_
  refine sw_V (M' := MX3_areAlike) (d' := d - 1) (bc' := 20) (bs' := 200) (ci := 4) (as := [_, _]) dL_areAlike_4 w_1079 ok_X3_areAlike (m_areAlike hR (by omega) (Nat.le_refl _) (Nat.le_refl _)) hR.1 rfl (by omega) (Nat.le_of_ble_eq_true rfl) (by omega) (by omega) (cp_e ox_areAlike (all1 (fun p pe pR pF => ?_))) (cp_n ox_areAlike (fun p v pe pR pF => ?_))
  · refine swx_catchW (E := "java/lang/IndexOutOfBoundsException") (pre := []) (suf := []) (x := (0, 18, 21, 19)) (k0 := 4) (lv' := [(0, _), (1, _), (2, _), (3, _)]) rfl (pas0) (by decide +kernel) (by decide +kernel) w_395 v_325 dL_areAlike_21 (by decide +kernel) rfl ?_
    refine sw_iconst (pc' := 24) (v := 1) rfl dL_areAlike_23 (by decide +kernel) ?_
    refine sw_ret (v := some _) ⟨dL_areAlike_24, _, rfl, rfl⟩ ?_
    exact lp_x pe tc_1 pR pF hO hn (Nat.le_refl _)
  refine sw_if_eq (pc' := 10) (tgt := 14) rfl dL_areAlike_7 (by decide +kernel) (fun c7 => ?_) (fun c7 => ?_)
  · refine sw_lconst (pc' := 15) (v := 0) rfl dL_areAlike_14 (by decide +kernel) ?_
    refine sw_putN (ci := 5) (k := 0) (pc' := 18) rfl dL_areAlike_15 (by decide +kernel) (by decide +kernel) v_347 rfl ((pF 158 (by omega) (by omega)).trans hO) (by show 100 ≤ _; omega) (Nat.le_of_ble_eq_true rfl) rfl rfl ?_
    refine sw_nm (fun g1 eg1 => ?_)
    have zg1 := (congrFun eg1 158).trans (up_s (h := p) (i := 158))
    refine sw_goto (tgt := 25) dL_areAlike_18 (by decide +kernel) ?_
    refine sw_iconst (pc' := 26) (v := 0) rfl dL_areAlike_25 (by decide +kernel) ?_
    refine sw_ret (v := some _) ⟨dL_areAlike_26, _, rfl, rfl⟩ ?_
    exact lp_v pe pR pF zg1 (by rw [c7]; rfl) (fun i h1 => (congrFun eg1 i).trans ((up_n h1).trans (rfl)))
  · refine sw_lconst (pc' := 11) (v := 1) rfl dL_areAlike_10 (by decide +kernel) ?_
    refine sw_goto (tgt := 15) dL_areAlike_11 (by decide +kernel) ?_
    refine sw_putN (ci := 5) (k := 0) (pc' := 18) rfl dL_areAlike_15 (by decide +kernel) (by decide +kernel) v_347 rfl ((pF 158 (by omega) (by omega)).trans hO) (by show 100 ≤ _; omega) (Nat.le_of_ble_eq_true rfl) rfl rfl ?_
    refine sw_nm (fun g2 eg2 => ?_)
    have zg2 := (congrFun eg2 158).trans (up_s (h := p) (i := 158))
    refine sw_goto (tgt := 25) dL_areAlike_18 (by decide +kernel) ?_
    refine sw_iconst (pc' := 26) (v := 0) rfl dL_areAlike_25 (by decide +kernel) ?_
    refine sw_ret (v := some _) ⟨dL_areAlike_26, _, rfl, rfl⟩ ?_
    exact lp_v pe pR pF zg2 ((bo_areAlike pe).elim (fun e => absurd e c7) (fun e => by rw [e]; rfl)) (fun i h1 => (congrFun eg2 i).trans ((up_n h1).trans (rfl)))
theorem ox_first {σ : CS} {a y : Int32} : OX [sI] (opFirst σ a y) := by
  unfold opFirst
  repeat' first
    | with_reducible exact ox_i
    | with_reducible exact ox_I mm_I_I
    | with_reducible refine ox_Sh mm_I_I (fun _ => ?_)
    | with_reducible refine ox_Wk mm_I_I (fun _ => ?_)
    | with_reducible refine ox_Rw mm_I_I (fun _ => ?_)
    | with_reducible refine ox_Li mm_I_I (fun _ => ?_)
    | with_reducible refine ox_if ?_ ?_
    | exact ox_i
    | exact ox_I mm_I_I
    | refine ox_Sh mm_I_I (fun _ => ?_)
    | refine ox_Wk mm_I_I (fun _ => ?_)
    | refine ox_Rw mm_I_I (fun _ => ?_)
    | refine ox_Li mm_I_I (fun _ => ?_)
    | refine ox_if ?_ ?_
    | split
theorem L_first {h : AH} {d bc bs n N : Nat} {σ : CS} {a y : Int32} {w : Int64} {s : Value} (hR : RC h σ) (hT : TXT h) (hV : IV σ N) (hN : N < 2 ^ 31) (hO : h 158 = .inr (5, [.long w, s])) (hn : 159 ≤ n) (hd : 12 ≤ d) (h1 : 60 ≤ bc) (h2 : 400 ≤ bs) : SM SR0 ML_first d bc bs [.ref 100, .int a, .int y, .ref 158] h n (LPo h n (tc sI sI) (opFirst σ a y)) := by
  refine sm_ofH pn_OverwalksLaw (by decide +kernel) (Nat.le_of_ble_eq_true rfl) ?_
  refine sw_aload_n (pc' := 1) rfl dL_first_0 rfl ?_
  refine sw_aload_n (pc' := 2) rfl dL_first_1 rfl ?_
  refine sw_iload_n (pc' := 3) rfl dL_first_2 rfl ?_
  refine sw_iload_n (pc' := 4) rfl dL_first_3 rfl ?_
  refine sw_V (M' := MX3_first) (d' := d - 1) (bc' := 20) (bs' := 200) (ci := 4) (as := [_, _]) dL_first_4 w_1086 ok_X3_first (m_first hR (by omega) (Nat.le_refl _) (Nat.le_refl _)) hR.1 rfl (by omega) (Nat.le_of_ble_eq_true rfl) (by omega) (by omega) (cp_e ox_first (all1 (fun p pe pR pF => ?_))) (cp_n ox_first (fun p v pe pR pF => ?_))
  · refine swx_catchW (E := "java/lang/IndexOutOfBoundsException") (pre := []) (suf := []) (x := (0, 11, 14, 19)) (k0 := 4) (lv' := [(0, _), (1, _), (2, _), (3, _)]) rfl (pas0) (by decide +kernel) (by decide +kernel) w_395 v_325 dL_first_14 (by decide +kernel) rfl ?_
    refine sw_iconst (pc' := 17) (v := 1) rfl dL_first_16 (by decide +kernel) ?_
    refine sw_ret (v := some _) ⟨dL_first_17, _, rfl, rfl⟩ ?_
    exact lp_x pe tc_1 pR pF hO hn (Nat.le_refl _)
  refine sw_i2l (pc' := 8) rfl dL_first_7 ?_
  refine sw_putN (ci := 5) (k := 0) (pc' := 11) rfl dL_first_8 (by decide +kernel) (by decide +kernel) v_347 rfl ((pF 158 (by omega) (by omega)).trans hO) (by show 100 ≤ _; omega) (Nat.le_of_ble_eq_true rfl) rfl rfl ?_
  refine sw_nm (fun g1 eg1 => ?_)
  have zg1 := (congrFun eg1 158).trans (up_s (h := p) (i := 158))
  refine sw_goto (tgt := 18) dL_first_11 (by decide +kernel) ?_
  refine sw_iconst (pc' := 19) (v := 0) rfl dL_first_18 (by decide +kernel) ?_
  refine sw_ret (v := some _) ⟨dL_first_19, _, rfl, rfl⟩ ?_
  exact lp_v pe pR pF zg1 rfl (fun i h1 => (congrFun eg1 i).trans ((up_n h1).trans (rfl)))
theorem mm_A_A : sA ∈ [sA] := .head _
theorem ox_valueOf {σ : CS} {x : Int32} : OX [sA] (opValueOf σ x) := by
  unfold opValueOf
  repeat' first
    | with_reducible exact ox_i
    | with_reducible exact ox_A mm_A_A
    | with_reducible refine ox_if ?_ ?_
    | exact ox_i
    | exact ox_A mm_A_A
    | refine ox_if ?_ ?_
    | split
theorem L_valueOf {h : AH} {d bc bs n N : Nat} {σ : CS} {x : Int32} {w : Int64} {s : Value} (hR : RC h σ) (hT : TXT h) (hV : IV σ N) (hN : N < 2 ^ 31) (hO : h 158 = .inr (5, [.long w, s])) (hn : 159 ≤ n) (hd : 12 ≤ d) (h1 : 60 ≤ bc) (h2 : 400 ≤ bs) : SM SR0 ML_valueOf d bc bs [.ref 100, .int x, .ref 158] h n (LPo h n (tc sA sA) (opValueOf σ x)) := by
  refine sm_ofH pn_OverwalksLaw (by decide +kernel) (Nat.le_of_ble_eq_true rfl) ?_
  refine sw_aload_n (pc' := 1) rfl dL_valueOf_0 rfl ?_
  refine sw_aload_n (pc' := 2) rfl dL_valueOf_1 rfl ?_
  refine sw_iload_n (pc' := 3) rfl dL_valueOf_2 rfl ?_
  refine sw_V (M' := MX3_valueOf) (d' := d - 1) (bc' := 20) (bs' := 200) (ci := 4) (as := [_]) dL_valueOf_3 w_1093 ok_X3_valueOf (m_valueOf hR (by omega) (Nat.le_refl _) (Nat.le_refl _)) hR.1 rfl (by omega) (Nat.le_of_ble_eq_true rfl) (by omega) (by omega) (cp_e ox_valueOf (all1 (fun p pe pR pF => ?_))) (cp_n ox_valueOf (fun p v pe pR pF => ?_))
  · refine swx_catch (E := "java/lang/IllegalArgumentException") (pre := []) (suf := []) (x := (0, 10, 13, 21)) (k0 := 3) (lv' := [(0, _), (1, _), (2, _)]) rfl (pas0) (by decide +kernel) (by decide +kernel) w_396 v_249 dL_valueOf_13 (by decide +kernel) rfl ?_
    refine sw_iconst (pc' := 15) (v := 1) rfl dL_valueOf_14 (by decide +kernel) ?_
    refine sw_ret (v := some _) ⟨dL_valueOf_15, _, rfl, rfl⟩ ?_
    exact lp_x pe tc_1 pR pF hO hn (Nat.le_refl _)
  refine sw_i2l (pc' := 7) rfl dL_valueOf_6 ?_
  refine sw_putN (ci := 5) (k := 0) (pc' := 10) rfl dL_valueOf_7 (by decide +kernel) (by decide +kernel) v_347 rfl ((pF 158 (by omega) (by omega)).trans hO) (by show 100 ≤ _; omega) (Nat.le_of_ble_eq_true rfl) rfl rfl ?_
  refine sw_nm (fun g1 eg1 => ?_)
  have zg1 := (congrFun eg1 158).trans (up_s (h := p) (i := 158))
  refine sw_goto (tgt := 16) dL_valueOf_10 (by decide +kernel) ?_
  refine sw_iconst (pc' := 17) (v := 0) rfl dL_valueOf_16 (by decide +kernel) ?_
  refine sw_ret (v := some _) ⟨dL_valueOf_17, _, rfl, rfl⟩ ?_
  exact lp_v pe pR pF zg1 rfl (fun i h1 => (congrFun eg1 i).trans ((up_n h1).trans (rfl)))
theorem ox_ofWalk {σ : CS} {a x : Int32} : OX [sI, sA] (opOfWalk σ a x) := by
  unfold opOfWalk
  repeat' first
    | with_reducible exact ox_i
    | with_reducible exact ox_I mm_IA_I
    | with_reducible exact ox_A mm_IA_A
    | with_reducible refine ox_Sh mm_IA_I (fun _ => ?_)
    | with_reducible refine ox_Wk mm_IA_I (fun _ => ?_)
    | with_reducible refine ox_Rw mm_IA_I (fun _ => ?_)
    | with_reducible refine ox_Li mm_IA_I (fun _ => ?_)
    | with_reducible refine ox_if ?_ ?_
    | exact ox_i
    | exact ox_I mm_IA_I
    | exact ox_A mm_IA_A
    | refine ox_Sh mm_IA_I (fun _ => ?_)
    | refine ox_Wk mm_IA_I (fun _ => ?_)
    | refine ox_Rw mm_IA_I (fun _ => ?_)
    | refine ox_Li mm_IA_I (fun _ => ?_)
    | refine ox_if ?_ ?_
    | split
theorem L_ofWalk {h : AH} {d bc bs n N : Nat} {σ : CS} {a x : Int32} {w : Int64} {s : Value} (hR : RC h σ) (hT : TXT h) (hV : IV σ N) (hN : N < 2 ^ 31) (hO : h 158 = .inr (5, [.long w, s])) (hn : 159 ≤ n) (hd : 12 ≤ d) (h1 : 60 ≤ bc) (h2 : 400 ≤ bs) : SM SR0 ML_ofWalk d bc bs [.ref 100, .int a, .int x, .ref 158] h n (LPo h n (tc sI sA) (opOfWalk σ a x)) := by
  refine sm_ofH pn_OverwalksLaw (by decide +kernel) (Nat.le_of_ble_eq_true rfl) ?_
  refine sw_aload_n (pc' := 1) rfl dL_ofWalk_0 rfl ?_
  refine sw_aload_n (pc' := 2) rfl dL_ofWalk_1 rfl ?_
  refine sw_iload_n (pc' := 3) rfl dL_ofWalk_2 rfl ?_
  refine sw_iload_n (pc' := 4) rfl dL_ofWalk_3 rfl ?_
  refine sw_V (M' := MX3_ofWalk) (d' := d - 1) (bc' := 20) (bs' := 200) (ci := 4) (as := [_, _]) dL_ofWalk_4 w_1100 ok_X3_ofWalk (m_ofWalk hR (by omega) (Nat.le_refl _) (Nat.le_refl _)) hR.1 rfl (by omega) (Nat.le_of_ble_eq_true rfl) (by omega) (by omega) (cp_e ox_ofWalk (all2 (fun p pe pR pF => ?_) (fun p pe pR pF => ?_))) (cp_n ox_ofWalk (fun p v pe pR pF => ?_))
  · refine swx_catchW (E := "java/lang/IndexOutOfBoundsException") (pre := []) (suf := [(0, 11, 18, 21)]) (x := (0, 11, 14, 19)) (k0 := 4) (lv' := [(0, _), (1, _), (2, _), (3, _)]) rfl (pas0) (by decide +kernel) (by decide +kernel) w_395 v_325 dL_ofWalk_14 (by decide +kernel) rfl ?_
    refine sw_iconst (pc' := 17) (v := 1) rfl dL_ofWalk_16 (by decide +kernel) ?_
    refine sw_ret (v := some _) ⟨dL_ofWalk_17, _, rfl, rfl⟩ ?_
    exact lp_x pe tc_1 pR pF hO hn (Nat.le_refl _)
  · refine swx_catchW (E := "java/lang/IllegalArgumentException") (pre := [(0, 11, 14, 19)]) (suf := []) (x := (0, 11, 18, 21)) (k0 := 4) (lv' := [(0, _), (1, _), (2, _), (3, _)]) rfl (pas1 ⟨by decide +kernel, _, w_395, .tail _ (.tail _ (.head _))⟩) (by decide +kernel) (by decide +kernel) w_396 v_249 dL_ofWalk_18 (by decide +kernel) rfl ?_
    refine sw_iconst (pc' := 21) (v := 2) rfl dL_ofWalk_20 (by decide +kernel) ?_
    refine sw_ret (v := some _) ⟨dL_ofWalk_21, _, rfl, rfl⟩ ?_
    exact lp_x pe (tc_2 sAI) pR pF hO hn (Nat.le_refl _)
  refine sw_i2l (pc' := 8) rfl dL_ofWalk_7 ?_
  refine sw_putN (ci := 5) (k := 0) (pc' := 11) rfl dL_ofWalk_8 (by decide +kernel) (by decide +kernel) v_347 rfl ((pF 158 (by omega) (by omega)).trans hO) (by show 100 ≤ _; omega) (Nat.le_of_ble_eq_true rfl) rfl rfl ?_
  refine sw_nm (fun g1 eg1 => ?_)
  have zg1 := (congrFun eg1 158).trans (up_s (h := p) (i := 158))
  refine sw_goto (tgt := 22) dL_ofWalk_11 (by decide +kernel) ?_
  refine sw_iconst (pc' := 23) (v := 0) rfl dL_ofWalk_22 (by decide +kernel) ?_
  refine sw_ret (v := some _) ⟨dL_ofWalk_23, _, rfl, rfl⟩ ?_
  exact lp_v pe pR pF zg1 rfl (fun i h1 => (congrFun eg1 i).trans ((up_n h1).trans (rfl)))
theorem ox_house {σ : CS} {x : Int32} : OX [sA] (opHouse σ x) := by
  unfold opHouse
  repeat' first
    | with_reducible exact ox_i
    | with_reducible exact ox_A mm_A_A
    | with_reducible refine ox_if ?_ ?_
    | exact ox_i
    | exact ox_A mm_A_A
    | refine ox_if ?_ ?_
    | split
theorem L_house {h : AH} {d bc bs n N : Nat} {σ : CS} {x : Int32} {w : Int64} {s : Value} (hR : RC h σ) (hT : TXT h) (hV : IV σ N) (hN : N < 2 ^ 31) (hO : h 158 = .inr (5, [.long w, s])) (hn : 159 ≤ n) (hd : 12 ≤ d) (h1 : 60 ≤ bc) (h2 : 400 ≤ bs) : SM SR0 ML_house d bc bs [.ref 100, .int x, .ref 158] h n (LPo h n (tc sA sA) (opHouse σ x)) := by
  refine sm_ofH pn_OverwalksLaw (by decide +kernel) (Nat.le_of_ble_eq_true rfl) ?_
  refine sw_aload_n (pc' := 1) rfl dL_house_0 rfl ?_
  refine sw_aload_n (pc' := 2) rfl dL_house_1 rfl ?_
  refine sw_iload_n (pc' := 3) rfl dL_house_2 rfl ?_
  refine sw_V (M' := MX3_house) (d' := d - 1) (bc' := 20) (bs' := 200) (ci := 4) (as := [_]) dL_house_3 w_1104 ok_X3_house (m_house hR (by omega) (Nat.le_refl _) (Nat.le_refl _)) hR.1 rfl (by omega) (Nat.le_of_ble_eq_true rfl) (by omega) (by omega) (cp_e ox_house (all1 (fun p pe pR pF => ?_))) (cp_n ox_house (fun p v pe pR pF => ?_))
  · refine swx_catch (E := "java/lang/IllegalArgumentException") (pre := []) (suf := []) (x := (0, 10, 13, 21)) (k0 := 3) (lv' := [(0, _), (1, _), (2, _)]) rfl (pas0) (by decide +kernel) (by decide +kernel) w_396 v_249 dL_house_13 (by decide +kernel) rfl ?_
    refine sw_iconst (pc' := 15) (v := 1) rfl dL_house_14 (by decide +kernel) ?_
    refine sw_ret (v := some _) ⟨dL_house_15, _, rfl, rfl⟩ ?_
    exact lp_x pe tc_1 pR pF hO hn (Nat.le_refl _)
  refine sw_i2l (pc' := 7) rfl dL_house_6 ?_
  refine sw_putN (ci := 5) (k := 0) (pc' := 10) rfl dL_house_7 (by decide +kernel) (by decide +kernel) v_347 rfl ((pF 158 (by omega) (by omega)).trans hO) (by show 100 ≤ _; omega) (Nat.le_of_ble_eq_true rfl) rfl rfl ?_
  refine sw_nm (fun g1 eg1 => ?_)
  have zg1 := (congrFun eg1 158).trans (up_s (h := p) (i := 158))
  refine sw_goto (tgt := 16) dL_house_10 (by decide +kernel) ?_
  refine sw_iconst (pc' := 17) (v := 0) rfl dL_house_16 (by decide +kernel) ?_
  refine sw_ret (v := some _) ⟨dL_house_17, _, rfl, rfl⟩ ?_
  exact lp_v pe pR pF zg1 rfl (fun i h1 => (congrFun eg1 i).trans ((up_n h1).trans (rfl)))
