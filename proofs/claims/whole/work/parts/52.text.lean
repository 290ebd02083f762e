/-! the class's text calls: the text's letters -/
/-- what stands between i and n0 is otherwise, the StringBuilder isn't -/
theorem SbF.frW {h h' : AH} {n n' n0 b N m : Nat} {c : List Int32} (hS : SbF h n n0 b N m c) (hF : ∀ i, n0 ≤ i → i < n → h' i = h i) (hn : n ≤ n') : SbF h' n' n0 b N m c := by
  obtain ⟨a, f, fl, h1, h2, h3, h4, h7, h8, h9, h10, h11⟩ := hS
  exact ⟨a, f, fl, (hF b h9 h10).trans h1, (hF a h7 h8).trans h2, h3, h4, h7, by omega, h9, by omega, h11⟩
/-- a THING's letters; m THINGS' letters, with blanks between them -/
def sgL (k : Nat) : List Int32 := if k = 100 then [45] else dgL k
def txL (g : Nat → Int32) : Nat → List Int32
  | 0 => []
  | m + 1 => txL g m ++ (if m = 0 then [] else [32]) ++ sgL (g m).toNatClampNeg
theorem txL_s {g : Nat → Int32} {m x : Nat} (e : g m = nI x) (hx : x ≤ 100) : txL g (m + 1) = txL g m ++ (if m = 0 then [] else [32]) ++ sgL x := by
  show txL g m ++ (if m = 0 then [] else [32]) ++ sgL (g m).toNatClampNeg = _
  rw [e, nI_clamp (by omega)]
theorem txL_e {g g' : Nat → Int32} (m : Nat) (q : ∀ j, j < m → g j = g' j) : txL g m = txL g' m := by
  induction m with
  | zero => rfl
  | succ m ih =>
    show txL g m ++ (if m = 0 then [] else [32]) ++ sgL (g m).toNatClampNeg = txL g' m ++ (if m = 0 then [] else [32]) ++ sgL (g' m).toNatClampNeg
    rw [ih (fun j hj => q j (by omega)), q m (by omega)]
theorem blk0 {c : List Int32} {k : Nat} (hk : k < 2 ^ 31) : (if (0 : Int32) < nI k then c ++ [32] else c) = c ++ (if k = 0 then [] else [32]) := by
  by_cases q : k = 0
  · rw [if_pos q, if_neg (by rw [q]; decide), List.append_nil]
  · rw [if_neg q, if_pos (show (0 : Int32) < nI k from nI_lt (a := 0) (by omega) hk)]
theorem blk1 {c : List Int32} {k : Nat} (hk : k < 2 ^ 31) (hz : c = [] ↔ k = 0) : (if (0 : Int32) < nI k then c ++ [32] else c) = c ++ (if c = [] then [] else [32]) := by
  rw [blk0 hk]
  by_cases q : k = 0
  · rw [if_pos q, if_pos (hz.mpr q)]
  · rw [if_neg q, if_neg (fun e => q (hz.mp e))]
/-- what lies on SHELF k from place s on -/
def tB (σ : CS) (k s : Nat) : List Int32 := txL (fun j => σ.1 k (s + j)) (σ.2.1 k - s)
def tcT (σ : CS) (a : Int32) : List Int32 := tB σ a.toNatClampNeg 0
theorem tcT_k {σ : CS} {k : Nat} (hk : k < 11) : tcT σ (nI k) = tB σ k 0 := by
  unfold tcT
  rw [nI_clamp (by omega)]
def tcR (σ : CS) (a : Int32) : List Int32 := if wGa σ a.toNatClampNeg = false then [33] else tB σ (wO σ a.toNatClampNeg) (wAh σ a.toNatClampNeg).toNatClampNeg
theorem tcR_f {σ : CS} {k : Nat} (hk : k < 6) (g : wGa σ k = false) : tcR σ (nI k) = [33] := by
  unfold tcR
  rw [nI_clamp (by omega), if_pos g]
theorem tcR_t {σ : CS} {k A : Nat} (hk : k < 6) (g : wGa σ k = true) (e : wAh σ k = nI A) (hA : A < 2 ^ 31) : tcR σ (nI k) = tB σ (wO σ k) A := by
  unfold tcR
  rw [nI_clamp (by omega), if_neg (by rw [g]; decide), e, nI_clamp hA]
/-- what a WALK gives next -/
def tnx (σ : CS) (k : Nat) : Nat := (taI (σ.1 (wO σ k)) (σ.2.1 (wO σ k)) (wAh σ k)).toNatClampNeg
def zpL (k j : Nat) : Nat → CS → List Int32 → List Int32
  | 0, _, c => c
  | m + 1, σ, c => if wHM σ k = true ∧ wHM σ j = true then zpL k j m (gvU (gvU σ k 1) j 1) (c ++ (if c = [] then [] else [32]) ++ sgL (tnx σ k) ++ [47] ++ sgL (tnx (gvU σ k 1) j)) else c
def tcZ (σ : CS) (a b : Int32) : List Int32 := if wSt σ a.toNatClampNeg = true ∨ wSt σ b.toNatClampNeg = true then [33] else zpL a.toNatClampNeg b.toNatClampNeg 12 σ []
theorem tcZ_f {σ : CS} {k j : Nat} (hk : k < 6) (hj : j < 6) (g : wSt σ k = true ∨ wSt σ j = true) : tcZ σ (nI k) (nI j) = [33] := by
  unfold tcZ
  rw [nI_clamp (by omega), nI_clamp (by omega), if_pos g]
theorem tcZ_t {σ : CS} {k j : Nat} (hk : k < 6) (hj : j < 6) (g : wSt σ k = false) (g2 : wSt σ j = false) : tcZ σ (nI k) (nI j) = zpL k j 12 σ [] := by
  unfold tcZ
  rw [nI_clamp (by omega), nI_clamp (by omega), if_neg (fun q => q.elim (fun q => Bool.noConfusion (g.symm.trans q)) (fun q => Bool.noConfusion (g2.symm.trans q)))]
theorem zpL_t {σ : CS} {k j m x y : Nat} {c : List Int32} (g : wHM σ k = true) (g2 : wHM σ j = true) (ex : taI (σ.1 (wO σ k)) (σ.2.1 (wO σ k)) (wAh σ k) = nI x) (hx : x ≤ 100) (ey : taI ((gvU σ k 1).1 (wO (gvU σ k 1) j)) ((gvU σ k 1).2.1 (wO (gvU σ k 1) j)) (wAh (gvU σ k 1) j) = nI y) (hy : y ≤ 100) : zpL k j (m + 1) σ c = zpL k j m (gvU (gvU σ k 1) j 1) (c ++ (if c = [] then [] else [32]) ++ sgL x ++ [47] ++ sgL y) := by
  have e : zpL k j (m + 1) σ c = zpL k j m (gvU (gvU σ k 1) j 1) (c ++ (if c = [] then [] else [32]) ++ sgL (tnx σ k) ++ [47] ++ sgL (tnx (gvU σ k 1) j)) := if_pos ⟨g, g2⟩
  rw [e]
  unfold tnx
  rw [ex, ey, nI_clamp (by omega), nI_clamp (by omega)]
theorem zpL_f {σ : CS} {k j m : Nat} {c : List Int32} (g : ¬ (wHM σ k = true ∧ wHM σ j = true)) : zpL k j (m + 1) σ c = c := if_neg g
theorem ne_z {c e : List Int32} {i : Nat} : c ++ [47] ++ e = [] ↔ i + 1 = 0 := by
  constructor
  · intro h
    simp at h
  · intro h
    omega
/-- a text of M letters at most -/
def TXo (h : AH) (n M : Nat) (c : List Int32) : ARes → AH → Nat → Prop := fun r' h' n' => n ≤ n' ∧ ∃ t L, r' = .inl (some (.ref t)) ∧ L ≤ M ∧ StN h' n' n t L c ∧ ∀ i, i < n → h' i = h i
theorem txo_k {A : Nat → AH → Option Value → Prop} {h : AH} {n M m : Nat} {c : List Int32} (k : ∀ h' n' t L, n ≤ n' → L ≤ M → StN h' n' n t L c → (∀ i, i < n → h' i = h i) → A n' h' (some (.ref t))) : ∀ (v : Option Value) (h' : AH) (n' : Nat), m ≤ n' → TXo h n M c (.inl v) h' n' → A n' h' v := by
  rintro v h' n' - ⟨g1, t, L, e, g2, g3, g4⟩
  cases e
  exact k h' n' t L g1 g2 g3 g4
theorem txo_x {A : Prop} {h : AH} {n M : Nat} {c : List Int32} {E : String} {h' : AH} {n' : Nat} (z : TXo h n M c (.inr E) h' n') : A := by
  obtain ⟨-, t, L, e, -⟩ := z
  cases e
theorem StN.low {h : AH} {n' n m t L : Nat} {c : List Int32} (hS : StN h n' n t L c) (hm : m ≤ n) : StN h n' m t L c := by
  obtain ⟨v, f, r, h1, h2, h3, h4, h5, h6, h7⟩ := hS
  exact ⟨v, f, r, h1, h2, h3, by omega, h5, by omega, h7⟩
/-- the end of a text call of the class -/
def CTo (h : AH) (n : Nat) (q : ARes × CS) (c : List Int32) : ARes → AH → Nat → Prop := fun r' h' n' => n ≤ n' ∧ (match q.1 with
  | .inr E => r' = .inr E
  | .inl _ => ∃ t L, r' = .inl (some (.ref t)) ∧ L ≤ 200 ∧ StN h' n' n t L c) ∧ RC h' q.2 ∧ FrC h h' n
theorem RC.frT {h h' : AH} {σ : CS} (hR : RC h σ) (hF : ∀ i, i < 135 → h' i = h i) : RC h' σ := by
  obtain ⟨h1, ⟨g, h2, h2'⟩, ⟨g', h3, h3'⟩, h4, h5, h6, h7, ⟨f, c, s, t, h8⟩, h9⟩ := hR
  refine ⟨(hF 100 (by decide +kernel)).trans h1, ⟨g, (hF 101 (by decide +kernel)).trans h2, h2'⟩, ⟨g', (hF 124 (by decide +kernel)).trans h3, h3'⟩, fun k hk => ?_, fun k hk => ?_, ?_, ?_, ⟨f, c, s, t, ?_⟩, fun k q1 q2 => ?_⟩
  · have z := h4 k hk
    exact ⟨(hF _ (by omega)).trans z.1, (hF _ (by omega)).trans z.2.1, z.2.2⟩
  · have z := h5 k hk
    exact ⟨z.1, (hF _ (by omega)).trans z.2.1, z.2.2⟩
  · obtain ⟨mk, b, sh, hw, gi, tk, ss, ts, la, z⟩ := h6
    exact ⟨mk, b, sh, hw, gi, tk, ss, ts, la, (hF _ (by decide +kernel)).trans z.1, z.2⟩
  · obtain ⟨mk, b, sh, hw, gi, tk, ss, ts, la, z⟩ := h7
    exact ⟨mk, b, sh, hw, gi, tk, ss, ts, la, (hF _ (by decide +kernel)).trans z.1, z.2⟩
  · exact ⟨(hF _ (by decide +kernel)).trans h8.1, (hF _ (by decide +kernel)).trans h8.2.1, h8.2.2⟩
  · have z := h9 k q1 q2
    exact ⟨z.1, (hF _ (by omega)).trans z.2⟩
/-- the things that lie there -/
def thI (σ : CS) : Prop := ∀ k, k < 11 → ∀ j, j < σ.2.1 k → 0 ≤ σ.1 k j ∧ σ.1 k j ≤ 100
theorem thI.at {σ : CS} (h : thI σ) {k j : Nat} (hk : k < 11) (hj : j < σ.2.1 k) : ∃ x, x ≤ 100 ∧ σ.1 k j = nI x := by
  have q := h k hk j hj
  obtain ⟨x, hx, e⟩ := nI_of (x := σ.1 k j) (Int32.not_lt.mpr q.1)
  exact ⟨x, (nI_leI (a := x) (b := 100) hx (by decide +kernel)).mp (e ▸ q.2), e⟩
def opText (σ : CS) (a : Int32) : ARes × CS := onSh a σ (fun _ => (ivN, σ))
def opRest (σ : CS) (a : Int32) : ARes × CS := onWk a σ (fun k => if (σ.2.2.2.2.1 k).1 = false then (xS, σ) else if wGa σ k = false then (ivN, rfU σ) else (ivN, gvU σ k (wGu σ k 12)))
/-- two WALKS give in turn -/
def zpU (σ : CS) (k j : Nat) : Nat → CS
  | 0 => σ
  | m + 1 => if wHM σ k = true ∧ wHM σ j = true then zpU (gvU (gvU σ k 1) j 1) k j m else σ
def opZip (σ : CS) (a b : Int32) : ARes × CS := onWk a σ (fun k => onWk b σ (fun j => if nI k = nI j then (xA, σ) else if (σ.2.2.2.2.1 k).1 = false then (xS, σ) else if (σ.2.2.2.2.1 j).1 = false then (xS, σ) else if wSt σ k = true ∨ wSt σ j = true then (ivN, rfU σ) else (ivN, zpU σ k j 12)))
theorem gv_wk {σ : CS} {k j m : Nat} (h : j ≠ k) : (gvU σ k m).2.2.2.2.1 j = σ.2.2.2.2.1 j := up_n h
theorem gv_hm {σ : CS} {k j m : Nat} (h : j ≠ k) : wHM (gvU σ k m) j = wHM σ j := by
  unfold wHM wO
  rw [gv_wk h]
  rfl
theorem gv_mk {σ : CS} {k m : Nat} : ((gvU σ k m).2.2.2.2.1 k).1 = (σ.2.2.2.2.1 k).1 := by
  unfold gvU wU
  dsimp only
  rw [up_s]
theorem iv_g1 {σ : CS} {N k : Nat} (h : IV σ N) (hk : k < 6) (g : wHM σ k = true) : IV (gvU σ k 1) N := h.gv hk (fun S q1 s a1 a2 es A b1 b2 => by
  have hs := st_s h hk q1 a2 es
  have hc := h.1.1 _ (h.1.2.2.2.2.2.1 k hk)
  rw [wHM_m hs, b1] at g
  have := (nI_ltI (by omega) (by omega)).mp (of_decide_eq_true g)
  omega)
theorem iv_zp {N k j : Nat} (hk : k < 6) (hj : j < 6) (hne : k ≠ j) (m : Nat) : ∀ {σ : CS}, IV σ N → IV (zpU σ k j m) N := by
  induction m with
  | zero => intro σ h; exact h
  | succ m ih =>
    intro σ h
    unfold zpU
    by_cases q : wHM σ k = true ∧ wHM σ j = true
    · rw [if_pos q]
      exact ih (iv_g1 (iv_g1 h hk q.1) hj ((gv_hm (Ne.symm hne)).trans q.2))
    · rw [if_neg q]
      exact h
theorem iv_text {σ : CS} {N : Nat} {a : Int32} (h : IV σ N) : IVo σ N (opText σ a) := onSh_iv h (fun _ _ => iv_same h)
theorem iv_rest {σ : CS} {N : Nat} {a : Int32} (h : IV σ N) : IVo σ N (opRest σ a) := onWk_iv h (fun k hk => iv_if (fun _ => iv_same h) (fun _ => iv_if (fun _ => iv_rf h) (fun _ => (h.gv hk (gu_le h hk)).mono (by omega))))
theorem iv_zip {σ : CS} {N : Nat} {a b : Int32} (h : IV σ N) : IVo σ N (opZip σ a b) := onWk_iv h (fun k hk => onWk_iv h (fun j hj => iv_if (fun _ => iv_same h) (fun q1 => iv_if (fun _ => iv_same h) (fun _ => iv_if (fun _ => iv_same h) (fun _ => iv_if (fun _ => iv_rf h) (fun _ => (iv_zp hk hj (fun e => q1 (by rw [e])) 12 h).mono (by omega)))))))
/-- what a WALK gives, where there is more -/
theorem hm_at {σ : CS} {N k : Nat} (h : IV σ N) (hN : N < 2 ^ 31) (hk : k < 6) (hm : (σ.2.2.2.2.1 k).1 = true) (g : wHM σ k = true) : ∃ A : Nat, wAh σ k = nI A ∧ A < σ.2.1 (wO σ k) := by
  have hI := h.iv hN
  have hs : wSt σ k = false := by
    cases e : wSt σ k with
    | false => rfl
    | true => rw [wHM_s e] at g; cases g
  obtain ⟨A, eA, hA, -⟩ := hI.2.2.2.2.2.2.2 k hk hm hs
  have hc := hI.1 _ (hI.2.2.2.2.2.2.1 k hk)
  rw [wHM_m hs, eA] at g
  exact ⟨A, eA, (nI_ltI (by omega) (by omega)).mp (of_decide_eq_true g)⟩
theorem hm_th {σ : CS} {N k : Nat} (h : IV σ N) (hN : N < 2 ^ 31) (hk : k < 6) (hm : (σ.2.2.2.2.1 k).1 = true) (g : wHM σ k = true) : ∃ x : Nat, x ≤ 100 ∧ taI (σ.1 (wO σ k)) (σ.2.1 (wO σ k)) (wAh σ k) = nI x := by
  have hI := h.iv hN
  obtain ⟨A, eA, hA⟩ := hm_at h hN hk hm g
  rw [eA, taI_in hA (hI.1 _ (hI.2.2.2.2.2.2.1 k hk))]
  exact (show thI σ from hI.2.2.1).at (hI.2.2.2.2.2.2.1 k hk) hA
theorem m_appendBlank {h : AH} {d bc bs n : Nat} {n0 b N m q : Nat} {c c2 : List Int32} {x : Int32} (hS : SbF h n n0 b N m c) (h0 : 100 ≤ n0) (hm : m ≤ 2000) (hq : q = if 0 < x then N + 1 else N) (hc2 : (if 0 < x then c ++ [32] else c) = c2) (hN : N + 1 ≤ 1000) (hd : 7 ≤ d) (h1 : 1 ≤ bc) (h2 : grC m q ≤ bs) : SM SR0 MX3_appendBlankBehindFirst d bc bs [.ref b, .int x] h n (SBo h n n n0 b q (capN m q) c2 none) := by
  obtain ⟨a0, f0, fl0, hS0, -⟩ := id hS
  refine sm_of pn_Overwalks rfl (Nat.le_of_ble_eq_true rfl) ?_
  refine sw_iload_n (pc' := 1) rfl dX3_appendBlankBehindFirst_0 rfl ?_
  refine sw_if_le (pc' := 4) (tgt := 11) rfl dX3_appendBlankBehindFirst_1 (by decide +kernel) (fun c1 => ?_) (fun c1 => ?_)
  · rw [if_neg (Int32.not_lt.mpr c1)] at hq hc2
    subst hq hc2
    refine sw_ret (v := none) ⟨dX3_appendBlankBehindFirst_11, rfl⟩ ?_
    rw [capN_s hS.rm]
    exact ⟨rfl, Nat.le_refl _, hS, fun _ _ => rfl⟩
  · rw [if_pos (Int32.not_le.mp c1)] at hq hc2
    subst hq hc2
    refine sw_aload_n (pc' := 5) rfl dX3_appendBlankBehindFirst_4 rfl ?_
    refine sw_bipush (pc' := 7) (v := 32) rfl dX3_appendBlankBehindFirst_5 (by decide +kernel) ?_
    refine sw_V (M' := MJ4_append_cf468) (d' := d - 1) (bc' := 1) (bs' := (grC m (N + 1))) (ci := 1) (as := [_]) dX3_appendBlankBehindFirst_7 w_715 ok_J4_append_cf468 (j_appendC (y := 32) hS (Nat.le_refl _) h0 hm (by decide +kernel) (by decide +kernel) (by omega) (by omega) (Nat.le_refl _) (Nat.le_refl _)) hS0 rfl (by omega) (Nat.le_of_ble_eq_true rfl) (by omega) (by omega) (fun E h' n' _ z => sbo_x z) (sbo_k (fun p pn pk pS pF => ?_))
    refine sw_pop (pc' := 11) rfl dX3_appendBlankBehindFirst_10 rfl ?_
    refine sw_ret (v := none) ⟨dX3_appendBlankBehindFirst_11, rfl⟩ ?_
    exact ⟨rfl, pk, pS, pF⟩
theorem m_appendThing {h : AH} {d bc bs n : Nat} {n0 b N m q k : Nat} {c : List Int32} (hS : SbF h n n0 b N m c) (h0 : 100 ≤ n0) (hm : m ≤ 2000) (hT : TXT h) (hk : k ≤ 100) (hq : q = N + (if k = 100 then 1 else dgt k)) (hN : N + 2 ≤ 1000) (hd : 7 ≤ d) (h1 : 1 ≤ bc) (h2 : grC m q ≤ bs) : SM SR0 MX3_appendThing d bc bs [.ref b, .int (nI k)] h n (SBo h n n n0 b q (capN m q) (c ++ sgL k) none) := by
  obtain ⟨a0, f0, fl0, hS0, -⟩ := id hS
  refine sm_of pn_Overwalks rfl (Nat.le_of_ble_eq_true rfl) ?_
  refine sw_iload_n (pc' := 1) rfl dX3_appendThing_0 rfl ?_
  refine sw_bipush (pc' := 3) (v := 100) rfl dX3_appendThing_1 (by decide +kernel) ?_
  refine sw_icmp_ne (pc' := 6) (tgt := 16) rfl dX3_appendThing_3 (by decide +kernel) (fun c3 => ?_) (fun c3 => ?_)
  · have k2 : k ≠ 100 := fun e => c3 (by rw [e]; rfl)
    have k1 : k < 100 := by omega
    rw [if_neg k2] at hq
    rw [show sgL k = dgL k from if_neg k2]
    subst hq
    refine sw_aload_n (pc' := 17) rfl dX3_appendThing_16 rfl ?_
    refine sw_iload_n (pc' := 18) rfl dX3_appendThing_17 rfl ?_
    have hdl : dgt k ≤ 2 := by unfold dgt; split <;> omega
    refine sw_V (M' := MJ4_append_bf812) (d' := d - 1) (bc' := 1) (bs' := (grC m (N + dgt k))) (ci := 1) (as := [_]) dX3_appendThing_18 w_813 ok_J4_append_bf812 (j_appendI hS (Nat.le_refl _) h0 hm hT k1 (by omega) (by omega) (Nat.le_refl _) (Nat.le_refl _)) hS0 rfl (by omega) (Nat.le_of_ble_eq_true rfl) (by omega) (by omega) (fun E h' n' _ z => sbo_x z) (sbo_k (fun p pn pk pS pF => ?_))
    refine sw_pop (pc' := 22) rfl dX3_appendThing_21 rfl ?_
    refine sw_ret (v := none) ⟨dX3_appendThing_22, rfl⟩ ?_
    exact ⟨rfl, pk, pS, pF⟩
  · have k2 : k = 100 := (nI_eq (b := 100) (by omega) (by decide +kernel)).mp c3
    rw [if_pos k2] at hq
    rw [show sgL k = [45] from if_pos k2]
    subst hq
    refine sw_aload_n (pc' := 7) rfl dX3_appendThing_6 rfl ?_
    refine sw_bipush (pc' := 9) (v := 45) rfl dX3_appendThing_7 (by decide +kernel) ?_
    refine sw_V (M' := MJ4_append_cf468) (d' := d - 1) (bc' := 1) (bs' := (grC m (N + 1))) (ci := 1) (as := [_]) dX3_appendThing_9 w_715 ok_J4_append_cf468 (j_appendC (y := 45) hS (Nat.le_refl _) h0 hm (by decide +kernel) (by decide +kernel) (by omega) (by omega) (Nat.le_refl _) (Nat.le_refl _)) hS0 rfl (by omega) (Nat.le_of_ble_eq_true rfl) (by omega) (by omega) (fun E h' n' _ z => sbo_x z) (sbo_k (fun p pn pk pS pF => ?_))
    refine sw_pop (pc' := 13) rfl dX3_appendThing_12 rfl ?_
    refine sw_goto (tgt := 22) dX3_appendThing_13 (by decide +kernel) ?_
    refine sw_ret (v := none) ⟨dX3_appendThing_22, rfl⟩ ?_
    exact ⟨rfl, pk, pS, pF⟩
theorem tl_le {k : Nat} : 1 ≤ (if k = 100 then 1 else dgt k) ∧ (if k = 100 then 1 else dgt k) ≤ 2 := by unfold dgt; split <;> (try split) <;> omega
theorem l_textBehind {h0 : AH} {d n k s b : Nat} {σ : CS} (hR : RC h0 σ) (hT : TXT h0) (hI : thI σ) (hk : k < 11) (hn : 135 ≤ n) (hd : 9 ≤ d) (m : Nat) : ∀ (i bc bs pn N r : Nat) (p : AH), i + m = σ.2.1 k → s ≤ i → n ≤ pn → SbF p pn n b N r (txL (fun j => σ.1 k (s + j)) (i - s)) → N ≤ 3 * (i - s) → r ≤ 80 → (∀ j, j < n → p j = h0 j) → 2 * m + 2 ≤ bc → 2 * (80 - r) + 44 ≤ bs → SW SR0 MX3_textBehind d bc bs 10 [(3, .int (nI i)), (2, .ref b), (0, .ref (102 + 2 * k)), (1, .int (nI s))] [] p pn (TXo h0 n 47 (tB σ k s)) := by
  have hc := (hR.sh hk).2.2.1
  induction m with
  | zero =>
    intro i bc bs pn N r p hi hs hnp hS hNi hr hF h1 h2
    have pR : RC p σ := hR.frT (fun j hj => hF j (by omega))
    obtain ⟨a0, f0, fl0, hS0, -⟩ := id hS
    refine sw_iload_n (pc' := 11) rfl dX3_textBehind_10 rfl ?_
    refine sw_aload_n (pc' := 12) rfl dX3_textBehind_11 rfl ?_
    refine sw_getf (ci := 2) (k := 2) (pc' := 15) rfl dX3_textBehind_12 (by decide +kernel) w_84 (pR.sh hk).1 rfl ?_
    refine sw_icmp_ge (pc' := 18) (tgt := 40) rfl dX3_textBehind_15 (by decide +kernel) (fun c15 => ?_) (fun c15 => ?_)
    · refine sw_aload_n (pc' := 41) rfl dX3_textBehind_40 rfl ?_
      refine sw_V (M' := MJ4_toString_0e30d) (d' := d - 1) (bc' := 2) (bs' := (N + 4)) (ci := 1) (as := []) dX3_textBehind_41 w_847 ok_J4_toString_0e30d (j_toString hS (by omega) (by omega) (Nat.le_refl _) (Nat.le_refl _) (by omega)) hS0 rfl (by omega) (Nat.le_of_ble_eq_true rfl) (by omega) (by omega) (fun E h' n' _ z => spo_x z) (spo_k (fun q qn t qk qS qF => ?_))
      refine sw_ret (v := some _) ⟨dX3_textBehind_44, _, rfl, Or.inl ⟨_, rfl⟩⟩ ?_
      unfold tB
      rw [← (show i = σ.2.1 k from hi)]
      exact ⟨by omega, t, N, rfl, by omega, qS.low (by omega), fun j hj => (qF j (by omega)).trans (hF j hj)⟩
    · exact absurd ((nI_leI (by omega) (by omega)).mpr (by omega)) c15
  | succ m ih =>
    intro i bc bs pn N r p hi hs hnp hS hNi hr hF h1 h2
    have pR : RC p σ := hR.frT (fun j hj => hF j (by omega))
    have hic : i < σ.2.1 k := by omega
    obtain ⟨x, hx, ex⟩ := hI.at hk hic
    refine sw_iload_n (pc' := 11) rfl dX3_textBehind_10 rfl ?_
    refine sw_aload_n (pc' := 12) rfl dX3_textBehind_11 rfl ?_
    refine sw_getf (ci := 2) (k := 2) (pc' := 15) rfl dX3_textBehind_12 (by decide +kernel) w_84 (pR.sh hk).1 rfl ?_
    refine sw_icmp_ge (pc' := 18) (tgt := 40) rfl dX3_textBehind_15 (by decide +kernel) (fun c15 => ?_) (fun c15 => ?_)
    · exact absurd c15 (nI_ge (by omega) (by omega))
    · refine sw_aload_n (pc' := 19) rfl dX3_textBehind_18 rfl ?_
      refine sw_iload_n (pc' := 20) rfl dX3_textBehind_19 rfl ?_
      refine sw_iload_n (pc' := 21) rfl dX3_textBehind_20 rfl ?_
      refine sw_isub (pc' := 22) rfl dX3_textBehind_21 ?_
      rw [show nI i - nI s = nI (i - s) from pk_sub hs]
      obtain ⟨q1, hq1⟩ : ∃ q1, q1 = if 0 < nI (i - s) then N + 1 else N := ⟨_, rfl⟩
      have hb1 : N ≤ q1 ∧ q1 ≤ N + 1 := by rw [hq1]; split <;> omega
      obtain ⟨o1, o2, o3, o4⟩ := pot (m := r) (q := q1) (K := 80) (by omega) (by omega)
      refine sw_S (M' := MX3_appendBlankBehindFirst) (d' := d - 1) (bc' := 1) (bs' := (grC r q1)) (as := [_, _]) dX3_textBehind_22 w_712 ok_X3_appendBlankBehindFirst (m_appendBlank hS (by omega) (by omega) hq1 (blk0 (by omega)) (by omega) (by omega) (Nat.le_refl _) (Nat.le_refl _)) (by omega) (Nat.le_of_ble_eq_true rfl) (by omega) (by omega) (fun E h' n' _ z => sbo_x z) (sbo_k (fun q qn qk qS qF => ?_))
      have qR : RC q σ := hR.frT (fun j hj => (qF j (by omega)).trans (hF j (by omega)))
      refine sw_aload_n (pc' := 26) rfl dX3_textBehind_25 rfl ?_
      refine sw_aload_n (pc' := 27) rfl dX3_textBehind_26 rfl ?_
      refine sw_iload_n (pc' := 28) rfl dX3_textBehind_27 rfl ?_
      refine sw_V (M' := MX1_thingAt) (d' := d - 1) (bc' := 0) (bs' := 0) (ci := 2) (as := [_]) dX3_textBehind_28 w_230 ok_X1_thingAt (m_thingAt (qR.sh hk)) (qR.sh hk).1 rfl (by omega) (Nat.le_of_ble_eq_true rfl) (Nat.zero_le _) (Nat.zero_le _) (fun E h' n' _ z => det_x z) (det_k ?_)
      rw [taI_in hic hc, ex]
      obtain ⟨q2, hq2⟩ : ∃ q2, q2 = q1 + (if x = 100 then 1 else dgt x) := ⟨_, rfl⟩
      have tl := tl_le (k := x)
      obtain ⟨u1, u2, u3, u4⟩ := pot (m := capN r q1) (q := q2) (K := 80) (by omega) (by omega)
      refine sw_S (M' := MX3_appendThing) (d' := d - 1) (bc' := 1) (bs' := (grC (capN r q1) q2)) (as := [_, _]) dX3_textBehind_31 w_810 ok_X3_appendThing (m_appendThing qS (by omega) (by omega) (hT.fr (fun j hj => (qF j (by omega)).trans (hF j (by omega)))) hx hq2 (by omega) (by omega) (Nat.le_refl _) (Nat.le_refl _)) (by omega) (Nat.le_of_ble_eq_true rfl) (by omega) (by omega) (fun E h' n' _ z => sbo_x z) (sbo_k (fun w wn wk wS wF => ?_))
      refine sw_iinc (pc' := 37) (lv' := [(3, _), (2, _), (0, _), (1, _)]) (v := nI (i + 1)) rfl dX3_textBehind_34 rfl (nI_1 i) (by decide +kernel) rfl ?_
      refine sw_goto (tgt := 10) dX3_textBehind_37 (by decide +kernel) ?_
      have eC : txL (fun j => σ.1 k (s + j)) (i + 1 - s) = txL (fun j => σ.1 k (s + j)) (i - s) ++ (if i - s = 0 then [] else [32]) ++ sgL x := by
        rw [show i + 1 - s = (i - s) + 1 by omega]
        exact txL_s (by show σ.1 k (s + (i - s)) = nI x; rw [show s + (i - s) = i by omega]; exact ex) hx
      exact ih (i + 1) _ _ wn q2 _ w (by omega) (by omega) (by omega) (by rw [eC]; exact wS) (by omega) u2 (fun j hj => ((wF j (by omega)).trans (qF j (by omega))).trans (hF j hj)) (by omega) (by omega)
theorem m_textBehind {h : AH} {d bc bs n k s : Nat} {σ : CS} (hR : RC h σ) (hT : TXT h) (hI : thI σ) (hk : k < 11) (hs : s ≤ σ.2.1 k) (hn : 135 ≤ n) (hd : 9 ≤ d) (h1 : 28 ≤ bc) (h2 : 200 ≤ bs) : SM SR0 MX3_textBehind d bc bs [.ref (102 + 2 * k), .int (nI s)] h n (TXo h n 47 (tB σ k s)) := by
  have hc := (hR.sh hk).2.2.1
  refine sm_of pn_Overwalks rfl (Nat.le_of_ble_eq_true rfl) ?_
  refine sw_new (ci := 1) (pc' := 3) rfl dX3_textBehind_0 (by decide +kernel) w_681 w_682 w_54 (by omega) (Nat.le_trans (Nat.le_of_ble_eq_true rfl) (show 4 ≤ _ by omega)) ?_
  refine sw_nm (fun g1 eg1 => ?_)
  have zg1 := (congrFun eg1 n).trans (up_s (h := h) (i := n))
  refine sw_dup (pc' := 4) rfl dX3_textBehind_3 rfl ?_
  have f1 : FN 1 = 4 := rfl
  refine sw_I (M' := MJ4_init_da8c8) (d' := d - 1) (bc' := 1) (bs' := 16) (as := []) dX3_textBehind_4 w_683 ok_J4_init_da8c8 (j_initSB (n0 := n) zg1 (Nat.le_refl _) (Nat.lt_succ_self _) (by omega) (Nat.le_refl _) (Nat.le_refl _) (by omega)) (by omega) (Nat.le_of_ble_eq_true rfl) (by omega) (by omega) (fun E h' n' _ z => sbo_x z) (sbo_k (fun p pn pk pS pF => ?_))
  refine sw_astore_n (pc' := 8) (lv' := [(2, _), (0, _), (1, _)]) rfl dX3_textBehind_7 (by decide +kernel) rfl ?_
  refine sw_iload_n (pc' := 9) rfl dX3_textBehind_8 rfl ?_
  refine sw_istore_n (pc' := 10) (lv' := [(3, _), (2, _), (0, _), (1, _)]) rfl dX3_textBehind_9 (by decide +kernel) rfl ?_
  exact l_textBehind hR hT hI hk hn hd (σ.2.1 k - s) s _ _ pn 0 16 p (by omega) (Nat.le_refl _) (by omega) (by rw [Nat.sub_self]; exact pS) (by omega) (by omega) (fun j hj => (pF j (Or.inl hj)).trans ((congrFun eg1 j).trans (up_n (by omega)))) (by omega) (by omega)
theorem m_text {h : AH} {d bc bs n N : Nat} {σ : CS} {a : Int32} (hR : RC h σ) (hT : TXT h) (hV : IV σ N) (hN : N < 2 ^ 31) (hn : 135 ≤ n) (hd : 10 ≤ d) (h1 : 60 ≤ bc) (h2 : 400 ≤ bs) : SM SR0 MX3_text d bc bs [.ref 100, .int a] h n (CTo h n (opText σ a) (tcT σ a)) := by
  have hI : thI σ := (hV.iv hN).2.2.1
  refine sm_of pn_Overwalks rfl (Nat.le_of_ble_eq_true rfl) ?_
  rcases idxN 11 (by decide +kernel) a with q | ⟨k, hk, rfl⟩
  · refine sw_aload_n (pc' := 1) rfl dX3_text_0 rfl ?_
    refine sw_iload_n (pc' := 2) rfl dX3_text_1 rfl ?_
    refine sw_V (M' := MX3_shelfAt) (d' := d - 1) (bc' := 1) (bs' := 6) (ci := 4) (as := [_]) dX3_text_2 w_402 ok_X3_shelfAt (m_shelfAt_x hR (Nat.le_refl _) (Nat.le_refl _) q) hR.1 rfl (by omega) (Nat.le_of_ble_eq_true rfl) (by omega) (by omega) (dx_x (swx_out rfl ?_)) (fun v h' n' _ z => dx_k z)
    rw [opText, onSh_x q]
    exact ⟨Nat.le_refl _, rfl, hR, FrC.rf⟩
  · refine sw_aload_n (pc' := 1) rfl dX3_text_0 rfl ?_
    refine sw_iload_n (pc' := 2) rfl dX3_text_1 rfl ?_
    refine sw_V (M' := MX3_shelfAt) (d' := d - 1) (bc' := 1) (bs' := 6) (ci := 4) (as := [_]) dX3_text_2 w_402 ok_X3_shelfAt (m_shelfAt_k hR (Nat.le_refl _) (Nat.le_refl _) hk) hR.1 rfl (by omega) (Nat.le_of_ble_eq_true rfl) (by omega) (by omega) (fun E h' n' _ z => det_x z) (det_k ?_)
    refine sw_iconst (pc' := 6) (v := 0) rfl dX3_text_5 (by decide +kernel) ?_
    refine sw_S (M' := MX3_textBehind) (d' := d - 1) (bc' := 28) (bs' := 200) (as := [_, _]) dX3_text_6 w_678 ok_X3_textBehind (m_textBehind (s := 0) hR hT hI hk (Nat.zero_le _) hn (by omega) (Nat.le_refl _) (Nat.le_refl _)) (by omega) (Nat.le_of_ble_eq_true rfl) (by omega) (by omega) (fun E h' n' _ z => txo_x z) (txo_k (fun p pn t L pk pL pS pF => ?_))
    refine sw_ret (v := some _) ⟨dX3_text_9, _, rfl, Or.inl ⟨_, rfl⟩⟩ ?_
    rw [opText, onSh_k hk, tcT_k hk]
    exact ⟨pk, ⟨t, L, rfl, by omega, pS⟩, hR.frT (fun i hi => pF i (by omega)), fun i _ hi => pF i hi⟩
theorem m_list {h : AH} {d bc bs n N : Nat} {σ : CS} {a : Int32} (hR : RC h σ) (hT : TXT h) (hV : IV σ N) (hN : N < 2 ^ 31) (hn : 135 ≤ n) (hd : 10 ≤ d) (h1 : 60 ≤ bc) (h2 : 400 ≤ bs) : SM SR0 MX3_list d bc bs [.ref 100, .int a] h n (CTo h n (opText σ a) (tcT σ a)) := by
  have hI : thI σ := (hV.iv hN).2.2.1
  refine sm_of pn_Overwalks rfl (Nat.le_of_ble_eq_true rfl) ?_
  rcases idxN 11 (by decide +kernel) a with q | ⟨k, hk, rfl⟩
  · refine sw_aload_n (pc' := 1) rfl dX3_list_0 rfl ?_
    refine sw_iload_n (pc' := 2) rfl dX3_list_1 rfl ?_
    refine sw_V (M' := MX3_shelfAt) (d' := d - 1) (bc' := 1) (bs' := 6) (ci := 4) (as := [_]) dX3_list_2 w_402 ok_X3_shelfAt (m_shelfAt_x hR (Nat.le_refl _) (Nat.le_refl _) q) hR.1 rfl (by omega) (Nat.le_of_ble_eq_true rfl) (by omega) (by omega) (dx_x (swx_out rfl ?_)) (fun v h' n' _ z => dx_k z)
    rw [opText, onSh_x q]
    exact ⟨Nat.le_refl _, rfl, hR, FrC.rf⟩
  · refine sw_aload_n (pc' := 1) rfl dX3_list_0 rfl ?_
    refine sw_iload_n (pc' := 2) rfl dX3_list_1 rfl ?_
    refine sw_V (M' := MX3_shelfAt) (d' := d - 1) (bc' := 1) (bs' := 6) (ci := 4) (as := [_]) dX3_list_2 w_402 ok_X3_shelfAt (m_shelfAt_k hR (Nat.le_refl _) (Nat.le_refl _) hk) hR.1 rfl (by omega) (Nat.le_of_ble_eq_true rfl) (by omega) (by omega) (fun E h' n' _ z => det_x z) (det_k ?_)
    refine sw_iconst (pc' := 6) (v := 0) rfl dX3_list_5 (by decide +kernel) ?_
    refine sw_S (M' := MX3_textBehind) (d' := d - 1) (bc' := 28) (bs' := 200) (as := [_, _]) dX3_list_6 w_678 ok_X3_textBehind (m_textBehind (s := 0) hR hT hI hk (Nat.zero_le _) hn (by omega) (Nat.le_refl _) (Nat.le_refl _)) (by omega) (Nat.le_of_ble_eq_true rfl) (by omega) (by omega) (fun E h' n' _ z => txo_x z) (txo_k (fun p pn t L pk pL pS pF => ?_))
    refine sw_ret (v := some _) ⟨dX3_list_9, _, rfl, Or.inl ⟨_, rfl⟩⟩ ?_
    rw [opText, onSh_k hk, tcT_k hk]
    exact ⟨pk, ⟨t, L, rfl, by omega, pS⟩, hR.frT (fun i hi => pF i (by omega)), fun i _ hi => pF i hi⟩
theorem m_rest {h : AH} {d bc bs n N : Nat} {σ : CS} {a : Int32} (hR : RC h σ) (hT : TXT h) (hV : IV σ N) (hN : N < 2 ^ 31) (hn : 135 ≤ n) (hd : 10 ≤ d) (h1 : 60 ≤ bc) (h2 : 400 ≤ bs) : SM SR0 MX3_rest d bc bs [.ref 100, .int a] h n (CTo h n (opRest σ a) (tcR σ a)) := by
  have hI : thI σ := (hV.iv hN).2.2.1
  refine sm_of pn_Overwalks rfl (Nat.le_of_ble_eq_true rfl) ?_
  rcases idxN 6 (by decide +kernel) a with q | ⟨k, hk, rfl⟩
  · refine sw_aload_n (pc' := 1) rfl dX3_rest_0 rfl ?_
    refine sw_iload_n (pc' := 2) rfl dX3_rest_1 rfl ?_
    refine sw_V (M' := MX3_walkAt) (d' := d - 1) (bc' := 1) (bs' := 6) (ci := 4) (as := [_]) dX3_rest_2 w_357 ok_X3_walkAt (m_walkAt_x hR (Nat.le_refl _) (Nat.le_refl _) q) hR.1 rfl (by omega) (Nat.le_of_ble_eq_true rfl) (by omega) (by omega) (dx_x (swx_out rfl ?_)) (fun v h' n' _ z => dx_k z)
    rw [opRest, onWk_x q]
    exact ⟨Nat.le_refl _, rfl, hR, FrC.rf⟩
  rcases Classical.em ((σ.2.2.2.2.1 k).1 = false) with q1 | q1
  · refine sw_aload_n (pc' := 1) rfl dX3_rest_0 rfl ?_
    refine sw_iload_n (pc' := 2) rfl dX3_rest_1 rfl ?_
    refine sw_V (M' := MX3_walkAt) (d' := d - 1) (bc' := 1) (bs' := 6) (ci := 4) (as := [_]) dX3_rest_2 w_357 ok_X3_walkAt (m_walkAt_k hR (Nat.le_refl _) (Nat.le_refl _) hk) hR.1 rfl (by omega) (Nat.le_of_ble_eq_true rfl) (by omega) (by omega) (fun E h' n' _ z => det_x z) (det_k ?_)
    refine sw_astore_n (pc' := 6) (lv' := [(2, _), (0, _), (1, _)]) rfl dX3_rest_5 (by decide +kernel) rfl ?_
    refine sw_aload_n (pc' := 7) rfl dX3_rest_6 rfl ?_
    refine sw_S (M' := MX3_requireMade) (d' := d - 1) (bc' := 1) (bs' := 6) (as := [_]) dX3_rest_7 w_640 ok_X3_requireMade (m_requireMade_x (hR.wk hk).2 (Nat.le_refl _) (Nat.le_refl _) q1) (by omega) (Nat.le_of_ble_eq_true rfl) (by omega) (by omega) (dx_x (swx_out rfl ?_)) (fun v h' n' _ z => dx_k z)
    rw [opRest, onWk_k hk, if_pos q1]
    exact ⟨Nat.le_refl _, rfl, hR, FrC.rf⟩
  refine sw_aload_n (pc' := 1) rfl dX3_rest_0 rfl ?_
  refine sw_iload_n (pc' := 2) rfl dX3_rest_1 rfl ?_
  refine sw_V (M' := MX3_walkAt) (d' := d - 1) (bc' := 1) (bs' := 6) (ci := 4) (as := [_]) dX3_rest_2 w_357 ok_X3_walkAt (m_walkAt_k hR (Nat.le_refl _) (Nat.le_refl _) hk) hR.1 rfl (by omega) (Nat.le_of_ble_eq_true rfl) (by omega) (by omega) (fun E h' n' _ z => det_x z) (det_k ?_)
  refine sw_astore_n (pc' := 6) (lv' := [(2, _), (0, _), (1, _)]) rfl dX3_rest_5 (by decide +kernel) rfl ?_
  refine sw_aload_n (pc' := 7) rfl dX3_rest_6 rfl ?_
  refine sw_S (M' := MX3_requireMade) (d' := d - 1) (bc' := 1) (bs' := 6) (as := [_]) dX3_rest_7 w_640 ok_X3_requireMade (m_requireMade_k (hR.wk hk).2 (Nat.le_refl _) (Nat.le_refl _) q1) (by omega) (Nat.le_of_ble_eq_true rfl) (by omega) (by omega) (fun E h' n' _ z => det_x z) (det_k ?_)
  refine sw_aload_n (pc' := 11) rfl dX3_rest_10 rfl ?_
  refine sw_V (M' := MX2_canGiveAll) (d' := d - 1) (bc' := 0) (bs' := 0) (ci := 3) (as := []) dX3_rest_11 w_673 ok_X2_canGiveAll (m_canGiveAll (hR.wk hk).2 (hR.sh (hR.wk hk).1) (by omega)) (hR.wk hk).2.1 rfl (by omega) (Nat.le_of_ble_eq_true rfl) (Nat.zero_le _) (Nat.zero_le _) (fun E h' n' _ z => det_x z) (det_k ?_)
  refine sw_if_ne (pc' := 17) (tgt := 25) rfl dX3_rest_14 (by decide +kernel) (fun c14 => ?_) (fun c14 => ?_)
  · refine sw_aload_n (pc' := 26) rfl dX3_rest_25 rfl ?_
    have hga : wGa σ k = true := bI_1 c14
    obtain ⟨A, eA, hA⟩ := wi_at ((hV.iv hN).2.2.2.2.2.2.2 k hk) q1 hga
    refine sw_V (M' := MX2_ahead) (d' := d - 1) (bc' := 0) (bs' := 0) (ci := 3) (as := []) dX3_rest_26 w_215 ok_X2_ahead (m_ahead (hR.wk hk).2) (hR.wk hk).2.1 rfl (by omega) (Nat.le_of_ble_eq_true rfl) (Nat.zero_le _) (Nat.zero_le _) (fun E h' n' _ z => det_x z) (det_k ?_)
    rw [show (σ.2.2.2.2.1 k).2.2.2.1 - (σ.2.2.2.2.1 k).2.2.2.2.1 = nI A from eA]
    refine sw_istore_n (pc' := 30) (lv' := [(3, _), (2, _), (0, _), (1, _)]) rfl dX3_rest_29 (by decide +kernel) rfl ?_
    refine sw_aload_n (pc' := 31) rfl dX3_rest_30 rfl ?_
    refine sw_bipush (pc' := 33) (v := 12) rfl dX3_rest_31 (by decide +kernel) ?_
    have ov2 := (hR.wk hk).1
    have ov : wO σ k < 11 := (hR.wk hk).1
    have hc9 : A < 2 ^ 31 := by have := (hR.sh ov).2.2.1; omega
    refine sw_V (M' := MX2_giveUpTo) (d' := d - 1) (bc' := 0) (bs' := 0) (ci := 3) (as := [_]) dX3_rest_33 w_221 ok_X2_giveUpTo (m_giveUpTo (m := 12) (hR.wk hk).2 (hR.sh ov) (by omega) (by omega) (by decide +kernel)) (hR.wk hk).2.1 rfl (by omega) (Nat.le_of_ble_eq_true rfl) (Nat.zero_le _) (Nat.zero_le _) (fun E h' n' _ z => wkp_x z) (wkp_k (fun p pW pF => ?_))
    have pR : RC p (gvU σ k (wGu σ k 12)) := hR.wU hk ⟨ov, pW⟩ pF
    refine sw_pop (pc' := 37) rfl dX3_rest_36 rfl ?_
    refine sw_aload_n (pc' := 38) rfl dX3_rest_37 rfl ?_
    refine sw_getf (ci := 3) (k := 1) (pc' := 41) rfl dX3_rest_38 (by decide +kernel) w_120 pW.1 rfl ?_
    refine sw_iload_n (pc' := 42) rfl dX3_rest_41 rfl ?_
    refine sw_S (M' := MX3_textBehind) (d' := d - 1) (bc' := 28) (bs' := 200) (as := [_, _]) dX3_rest_42 w_678 ok_X3_textBehind (m_textBehind (k := wO σ k) (s := A) pR (hT.fr (fun i hi => pF i (by omega))) (show thI (gvU σ k (wGu σ k 12)) from hI) ov hA hn (by omega) (Nat.le_refl _) (Nat.le_refl _)) (by omega) (Nat.le_of_ble_eq_true rfl) (by omega) (by omega) (fun E h' n' _ z => txo_x z) (txo_k (fun w wn t L wk wL wS wF => ?_))
    refine sw_ret (v := some _) ⟨dX3_rest_45, _, rfl, Or.inl ⟨_, rfl⟩⟩ ?_
    rw [opRest, onWk_k hk, if_neg q1, if_neg (by rw [hga]; decide), tcR_t hk hga eA (by have := hc9; omega)]
    exact ⟨wk, ⟨t, L, rfl, by omega, wS⟩, pR.frT (fun i hi => wF i (by omega)), fun i h9 hi => (wF i hi).trans (pF i (by omega))⟩
  · refine sw_aload_n (pc' := 18) rfl dX3_rest_17 rfl ?_
    refine sw_V (M' := MX3_refuse) (d' := d - 1) (bc' := 0) (bs' := 0) (ci := 4) (as := []) dX3_rest_18 w_439 ok_X3_refuse (m_refuse hR) hR.1 rfl (by omega) (Nat.le_of_ble_eq_true rfl) (Nat.zero_le _) (Nat.zero_le _) (fun E h' n' _ z => cp_x z) (cp_k (fun p pR pF => ?_))
    refine sw_pop (pc' := 22) rfl dX3_rest_21 rfl ?_
    refine sw_ldcS (pc' := 24) rfl dX3_rest_22 (SRm 15 rfl) (by decide +kernel) ?_
    refine sw_ret (v := some _) ⟨dX3_rest_24, _, rfl, Or.inl ⟨_, rfl⟩⟩ ?_
    rw [opRest, onWk_k hk, if_neg q1, if_pos (show wGa σ k = false from bI_0 c14), tcR_f hk (bI_0 c14)]
    exact ⟨Nat.le_refl _, ⟨40, 1, rfl, by omega, (hT.fr (fun i hi => pF i (Or.inl hi) (by omega))).2.2.2.2.2.2.n (by omega)⟩, pR, pF⟩
theorem l_zip {h0 : AH} {d n k j b N : Nat} (hT : TXT h0) (hN : N < 2 ^ 31) (hk : k < 6) (hj : j < 6) (hne : k ≠ j) (hn : 135 ≤ n) (hd : 9 ≤ d) (m : Nat) : ∀ (i bc bs pn N9 r : Nat) (p : AH) (σ : CS) (c : List Int32), i + m = 12 → RC p σ → IV σ N → (σ.2.2.2.2.1 k).1 = true → (σ.2.2.2.2.1 j).1 = true → n ≤ pn → SbF p pn n b N9 r c → N9 ≤ 6 * i → r ≤ 144 → (c = [] ↔ i = 0) → FrC h0 p n → 4 * m + 2 ≤ bc → 2 * (144 - r) + 80 ≤ bs → SW SR0 MX3_zip d bc bs 72 [(6, .int (nI i)), (5, .ref b), (4, .ref (125 + j)), (3, .ref (125 + k)), (0, .ref 100), (1, .int (nI k)), (2, .int (nI j))] [] p pn (CTo h0 n (ivN, zpU σ k j m) (zpL k j m σ c)) := by
  induction m with
  | zero =>
    intro i bc bs pn N9 r p σ c hi pR hV hmk hmj hnp hS hNi hr hz hG h1 h2
    refine sw_iload (pc' := 74) rfl dX3_zip_72 rfl ?_
    refine sw_bipush (pc' := 76) (v := 12) rfl dX3_zip_74 (by decide +kernel) ?_
    refine sw_icmp_ge (pc' := 79) (tgt := 134) rfl dX3_zip_76 (by decide +kernel) (fun c76 => ?_) (fun c76 => ?_)
    · refine sw_aload (pc' := 136) rfl dX3_zip_134 rfl ?_
      obtain ⟨a0, f0, fl0, hS0, -⟩ := id hS
      refine sw_V (M' := MJ4_toString_0e30d) (d' := d - 1) (bc' := 2) (bs' := (N9 + 4)) (ci := 1) (as := []) dX3_zip_136 w_847 ok_J4_toString_0e30d (j_toString hS (by omega) (by omega) (Nat.le_refl _) (Nat.le_refl _) (by omega)) hS0 rfl (by omega) (Nat.le_of_ble_eq_true rfl) (by omega) (by omega) (fun E h' n' _ z => spo_x z) (spo_k (fun q qn t qk qS qF => ?_))
      refine sw_ret (v := some _) ⟨dX3_zip_139, _, rfl, Or.inl ⟨_, rfl⟩⟩ ?_
      exact (show CTo h0 n (ivN, σ) c _ _ _ from ⟨by omega, ⟨t, N9, rfl, by omega, qS.low (by omega)⟩, pR.frT (fun i hi => qF i (by omega)), fun i a hi => (qF i (by omega)).trans (hG i a hi)⟩)
    · exact absurd ((nI_leI (a := 12) (b := i) (by decide +kernel) (by omega)).mpr (by omega)) c76
  | succ m ih =>
    intro i bc bs pn N9 r p σ c hi pR hV hmk hmj hnp hS hNi hr hz hG h1 h2
    refine sw_iload (pc' := 74) rfl dX3_zip_72 rfl ?_
    refine sw_bipush (pc' := 76) (v := 12) rfl dX3_zip_74 (by decide +kernel) ?_
    refine sw_icmp_ge (pc' := 79) (tgt := 134) rfl dX3_zip_76 (by decide +kernel) (fun c76 => ?_) (fun c76 => ?_)
    · exact absurd c76 (nI_ge (b := 12) (by omega) (by decide +kernel))
    · refine sw_aload_n (pc' := 80) rfl dX3_zip_79 rfl ?_
      refine sw_V (M' := MX2_hasMore) (d' := d - 1) (bc' := 0) (bs' := 0) (ci := 3) (as := []) dX3_zip_80 w_188 ok_X2_hasMore (m_hasMore (pR.wk hk).2 (pR.sh (pR.wk hk).1) (by omega)) (pR.wk hk).2.1 rfl (by omega) (Nat.le_of_ble_eq_true rfl) (Nat.zero_le _) (Nat.zero_le _) (fun E h' n' _ z => det_x z) (det_k ?_)
      refine sw_if_eq (pc' := 86) (tgt := 134) rfl dX3_zip_83 (by decide +kernel) (fun c83 => ?_) (fun c83 => ?_)
      · refine sw_aload (pc' := 136) rfl dX3_zip_134 rfl ?_
        obtain ⟨a0, f0, fl0, hS0, -⟩ := id hS
        refine sw_V (M' := MJ4_toString_0e30d) (d' := d - 1) (bc' := 2) (bs' := (N9 + 4)) (ci := 1) (as := []) dX3_zip_136 w_847 ok_J4_toString_0e30d (j_toString hS (by omega) (by omega) (Nat.le_refl _) (Nat.le_refl _) (by omega)) hS0 rfl (by omega) (Nat.le_of_ble_eq_true rfl) (by omega) (by omega) (fun E h' n' _ z => spo_x z) (spo_k (fun q qn t qk qS qF => ?_))
        refine sw_ret (v := some _) ⟨dX3_zip_139, _, rfl, Or.inl ⟨_, rfl⟩⟩ ?_
        have e9 : zpU σ k j (m + 1) = σ := if_neg (fun g => Bool.noConfusion ((show wHM σ k = false from bI_0 c83).symm.trans g.1))
        have e8 : zpL k j (m + 1) σ c = c := zpL_f (fun g => Bool.noConfusion ((show wHM σ k = false from bI_0 c83).symm.trans g.1))
        rw [e9, e8]
        exact (show CTo h0 n (ivN, σ) c _ _ _ from ⟨by omega, ⟨t, N9, rfl, by omega, qS.low (by omega)⟩, pR.frT (fun i hi => qF i (by omega)), fun i a hi => (qF i (by omega)).trans (hG i a hi)⟩)
      · refine sw_aload (pc' := 88) rfl dX3_zip_86 rfl ?_
        refine sw_V (M' := MX2_hasMore) (d' := d - 1) (bc' := 0) (bs' := 0) (ci := 3) (as := []) dX3_zip_88 w_188 ok_X2_hasMore (m_hasMore (pR.wk hj).2 (pR.sh (pR.wk hj).1) (by omega)) (pR.wk hj).2.1 rfl (by omega) (Nat.le_of_ble_eq_true rfl) (Nat.zero_le _) (Nat.zero_le _) (fun E h' n' _ z => det_x z) (det_k ?_)
        refine sw_if_eq (pc' := 94) (tgt := 134) rfl dX3_zip_91 (by decide +kernel) (fun c91 => ?_) (fun c91 => ?_)
        · refine sw_aload (pc' := 136) rfl dX3_zip_134 rfl ?_
          obtain ⟨a0, f0, fl0, hS0, -⟩ := id hS
          refine sw_V (M' := MJ4_toString_0e30d) (d' := d - 1) (bc' := 2) (bs' := (N9 + 4)) (ci := 1) (as := []) dX3_zip_136 w_847 ok_J4_toString_0e30d (j_toString hS (by omega) (by omega) (Nat.le_refl _) (Nat.le_refl _) (by omega)) hS0 rfl (by omega) (Nat.le_of_ble_eq_true rfl) (by omega) (by omega) (fun E h' n' _ z => spo_x z) (spo_k (fun q qn t qk qS qF => ?_))
          refine sw_ret (v := some _) ⟨dX3_zip_139, _, rfl, Or.inl ⟨_, rfl⟩⟩ ?_
          have e9 : zpU σ k j (m + 1) = σ := if_neg (fun g => Bool.noConfusion ((show wHM σ j = false from bI_0 c91).symm.trans g.2))
          have e8 : zpL k j (m + 1) σ c = c := zpL_f (fun g => Bool.noConfusion ((show wHM σ j = false from bI_0 c91).symm.trans g.2))
          rw [e9, e8]
          exact (show CTo h0 n (ivN, σ) c _ _ _ from ⟨by omega, ⟨t, N9, rfl, by omega, qS.low (by omega)⟩, pR.frT (fun i hi => qF i (by omega)), fun i a hi => (qF i (by omega)).trans (hG i a hi)⟩)
        · refine sw_aload (pc' := 96) rfl dX3_zip_94 rfl ?_
          refine sw_iload (pc' := 98) rfl dX3_zip_96 rfl ?_
          have g1 : wHM σ k = true := bI_1 c83
          have g2 : wHM σ j = true := bI_1 c91
          obtain ⟨x, hx, ex⟩ := hm_th hV hN hk hmk g1
          have V1 : IV (gvU σ k 1) N := iv_g1 hV hk g1
          have g3 : wHM (gvU σ k 1) j = true := (gv_hm (Ne.symm hne)).trans g2
          have hm1 : ((gvU σ k 1).2.2.2.2.1 j).1 = true := by rw [gv_wk (Ne.symm hne)]; exact hmj
          obtain ⟨y, hy, ey⟩ := hm_th V1 hN hj hm1 g3
          have V2 : IV (gvU (gvU σ k 1) j 1) N := iv_g1 V1 hj g3
          obtain ⟨q1, hq1⟩ : ∃ q1, q1 = if 0 < nI i then N9 + 1 else N9 := ⟨_, rfl⟩
          have hb1 : N9 ≤ q1 ∧ q1 ≤ N9 + 1 := by rw [hq1]; split <;> omega
          obtain ⟨o1, o2, o3, o4⟩ := pot (m := r) (q := q1) (K := 144) (by omega) (by omega)
          refine sw_S (M' := MX3_appendBlankBehindFirst) (d' := d - 1) (bc' := 1) (bs' := (grC r q1)) (as := [_, _]) dX3_zip_98 w_712 ok_X3_appendBlankBehindFirst (m_appendBlank hS (by omega) (by omega) hq1 (blk1 (by omega) hz) (by omega) (by omega) (Nat.le_refl _) (Nat.le_refl _)) (by omega) (Nat.le_of_ble_eq_true rfl) (by omega) (by omega) (fun E h' n' _ z => sbo_x z) (sbo_k (fun q qn qk qS qF => ?_))
          have qR : RC q σ := pR.frT (fun j hj => qF j (by omega))
          have qG : FrC h0 q n := fun i a hi => (qF i (Or.inl hi)).trans (hG i a hi)
          refine sw_aload (pc' := 103) rfl dX3_zip_101 rfl ?_
          refine sw_aload_n (pc' := 104) rfl dX3_zip_103 rfl ?_
          refine sw_V (M' := MX2_give) (d' := d - 1) (bc' := 0) (bs' := 0) (ci := 3) (as := []) dX3_zip_104 w_200 ok_X2_give (m_give (qR.wk hk).2 (qR.sh (qR.wk hk).1) (by have := (qR.wk hk).1; omega) (by omega)) (qR.wk hk).2.1 rfl (by omega) (Nat.le_of_ble_eq_true rfl) (Nat.zero_le _) (Nat.zero_le _) (fun E h' n' _ z => wkp_x z) (wkp_k (fun u uW uF => ?_))
          have uR : RC u (gvU σ k 1) := qR.wU hk ⟨(qR.wk hk).1, uW⟩ uF
          have uG : FrC h0 u n := fun i a hi => (uF i (by omega)).trans (qG i a hi)
          have uS := qS.frW (h' := u) (fun i a _ => uF i (by omega)) (Nat.le_refl _)
          rw [show taI (σ.1 (σ.2.2.2.2.1 k).2.1) (σ.2.1 (σ.2.2.2.2.1 k).2.1) ((σ.2.2.2.2.1 k).2.2.2.1 - (σ.2.2.2.2.1 k).2.2.2.2.1) = nI x from ex]
          obtain ⟨q2, hq2⟩ : ∃ q2, q2 = q1 + (if x = 100 then 1 else dgt x) := ⟨_, rfl⟩
          have tl := tl_le (k := x)
          obtain ⟨u1, u2, u3, u4⟩ := pot (m := capN r q1) (q := q2) (K := 144) (by omega) (by omega)
          refine sw_S (M' := MX3_appendThing) (d' := d - 1) (bc' := 1) (bs' := (grC (capN r q1) q2)) (as := [_, _]) dX3_zip_107 w_810 ok_X3_appendThing (m_appendThing uS (by omega) (by omega) (hT.fr (fun j hj => uG j (by omega) (by omega))) hx hq2 (by omega) (by omega) (Nat.le_refl _) (Nat.le_refl _)) (by omega) (Nat.le_of_ble_eq_true rfl) (by omega) (by omega) (fun E h' n' _ z => sbo_x z) (sbo_k (fun v vn vk vS vF => ?_))
          have vR : RC v (gvU σ k 1) := uR.frT (fun j hj => vF j (by omega))
          have vG : FrC h0 v n := fun i a hi => (vF i (Or.inl hi)).trans (uG i a hi)
          refine sw_aload (pc' := 112) rfl dX3_zip_110 rfl ?_
          refine sw_bipush (pc' := 114) (v := 47) rfl dX3_zip_112 (by decide +kernel) ?_
          obtain ⟨a0, f0, fl0, hS0, -⟩ := id vS
          obtain ⟨w1, w2, w3, w4⟩ := pot (m := capN (capN r q1) q2) (q := q2 + 1) (K := 144) (by omega) (by omega)
          refine sw_V (M' := MJ4_append_cf468) (d' := d - 1) (bc' := 1) (bs' := (grC (capN (capN r q1) q2) (q2 + 1))) (ci := 1) (as := [_]) dX3_zip_114 w_715 ok_J4_append_cf468 (j_appendC (y := 47) vS (Nat.le_refl _) (by omega) (by omega) (by decide +kernel) (by decide +kernel) (by omega) (by omega) (Nat.le_refl _) (Nat.le_refl _)) hS0 rfl (by omega) (Nat.le_of_ble_eq_true rfl) (by omega) (by omega) (fun E h' n' _ z => sbo_x z) (sbo_k (fun w wn wk wS wF => ?_))
          have wR : RC w (gvU σ k 1) := vR.frT (fun j hj => wF j (by omega))
          have wG : FrC h0 w n := fun i a hi => (wF i (Or.inl hi)).trans (vG i a hi)
          refine sw_pop (pc' := 118) rfl dX3_zip_117 rfl ?_
          refine sw_aload (pc' := 120) rfl dX3_zip_118 rfl ?_
          refine sw_aload (pc' := 122) rfl dX3_zip_120 rfl ?_
          refine sw_V (M' := MX2_give) (d' := d - 1) (bc' := 0) (bs' := 0) (ci := 3) (as := []) dX3_zip_122 w_200 ok_X2_give (m_give (wR.wk hj).2 (wR.sh (wR.wk hj).1) (by have := (wR.wk hj).1; omega) (by omega)) (wR.wk hj).2.1 rfl (by omega) (Nat.le_of_ble_eq_true rfl) (Nat.zero_le _) (Nat.zero_le _) (fun E h' n' _ z => wkp_x z) (wkp_k (fun y1 yW yF => ?_))
          have yR : RC y1 (gvU (gvU σ k 1) j 1) := wR.wU hj ⟨(wR.wk hj).1, yW⟩ yF
          have yG : FrC h0 y1 n := fun i a hi => (yF i (by omega)).trans (wG i a hi)
          have yS := wS.frW (h' := y1) (fun i a _ => yF i (by omega)) (Nat.le_refl _)
          rw [show taI ((gvU σ k 1).1 ((gvU σ k 1).2.2.2.2.1 j).2.1) ((gvU σ k 1).2.1 ((gvU σ k 1).2.2.2.2.1 j).2.1) (((gvU σ k 1).2.2.2.2.1 j).2.2.2.1 - ((gvU σ k 1).2.2.2.2.1 j).2.2.2.2.1) = nI y from ey]
          obtain ⟨q4, hq4⟩ : ∃ q4, q4 = q2 + 1 + (if y = 100 then 1 else dgt y) := ⟨_, rfl⟩
          have tm := tl_le (k := y)
          obtain ⟨z1, z2, z3, z4⟩ := pot (m := capN (capN (capN r q1) q2) (q2 + 1)) (q := q4) (K := 144) (by omega) (by omega)
          refine sw_S (M' := MX3_appendThing) (d' := d - 1) (bc' := 1) (bs' := (grC (capN (capN (capN r q1) q2) (q2 + 1)) q4)) (as := [_, _]) dX3_zip_125 w_810 ok_X3_appendThing (m_appendThing yS (by omega) (by omega) (hT.fr (fun j hj => yG j (by omega) (by omega))) hy hq4 (by omega) (by omega) (Nat.le_refl _) (Nat.le_refl _)) (by omega) (Nat.le_of_ble_eq_true rfl) (by omega) (by omega) (fun E h' n' _ z => sbo_x z) (sbo_k (fun e en ek eS eF => ?_))
          have eR : RC e (gvU (gvU σ k 1) j 1) := yR.frT (fun j hj => eF j (by omega))
          have eG : FrC h0 e n := fun i a hi => (eF i (Or.inl hi)).trans (yG i a hi)
          refine sw_iinc (pc' := 131) (lv' := [(6, _), (5, _), (4, _), (3, _), (0, _), (1, _), (2, _)]) (v := nI (i + 1)) rfl dX3_zip_128 rfl (nI_1 i) (by decide +kernel) rfl ?_
          refine sw_goto (tgt := 72) dX3_zip_131 (by decide +kernel) ?_
          have e9 : zpU σ k j (m + 1) = zpU (gvU (gvU σ k 1) j 1) k j m := if_pos ⟨g1, g2⟩
          rw [e9, zpL_t g1 g2 ex hx ey hy]
          exact ih (i + 1) _ _ en q4 _ e _ _ (by omega) eR V2 (by rw [gv_wk hne, gv_mk]; exact hmk) (by rw [gv_mk]; exact hm1) (by omega) eS (by omega) z2 ne_z eG (by omega) (by omega)
theorem m_zip {h : AH} {d bc bs n N : Nat} {σ : CS} {a a2 : Int32} (hR : RC h σ) (hT : TXT h) (hV : IV σ N) (hN : N < 2 ^ 31) (hn : 135 ≤ n) (hd : 10 ≤ d) (h1 : 60 ≤ bc) (h2 : 400 ≤ bs) : SM SR0 MX3_zip d bc bs [.ref 100, .int a, .int a2] h n (CTo h n (opZip σ a a2) (tcZ σ a a2)) := by
  refine sm_of pn_Overwalks rfl (Nat.le_of_ble_eq_true rfl) ?_
  rcases idxN 6 (by decide +kernel) a with q | ⟨k, hk, rfl⟩
  · refine sw_aload_n (pc' := 1) rfl dX3_zip_0 rfl ?_
    refine sw_iload_n (pc' := 2) rfl dX3_zip_1 rfl ?_
    refine sw_V (M' := MX3_walkAt) (d' := d - 1) (bc' := 1) (bs' := 6) (ci := 4) (as := [_]) dX3_zip_2 w_357 ok_X3_walkAt (m_walkAt_x hR (Nat.le_refl _) (Nat.le_refl _) q) hR.1 rfl (by omega) (Nat.le_of_ble_eq_true rfl) (by omega) (by omega) (dx_x (swx_out rfl ?_)) (fun v h' n' _ z => dx_k z)
    rw [opZip, onWk_x q]
    exact ⟨Nat.le_refl _, rfl, hR, FrC.rf⟩
  rcases idxN 6 (by decide +kernel) a2 with q | ⟨j, hj, rfl⟩
  · refine sw_aload_n (pc' := 1) rfl dX3_zip_0 rfl ?_
    refine sw_iload_n (pc' := 2) rfl dX3_zip_1 rfl ?_
    refine sw_V (M' := MX3_walkAt) (d' := d - 1) (bc' := 1) (bs' := 6) (ci := 4) (as := [_]) dX3_zip_2 w_357 ok_X3_walkAt (m_walkAt_k hR (Nat.le_refl _) (Nat.le_refl _) hk) hR.1 rfl (by omega) (Nat.le_of_ble_eq_true rfl) (by omega) (by omega) (fun E h' n' _ z => det_x z) (det_k ?_)
    refine sw_astore_n (pc' := 6) (lv' := [(3, _), (0, _), (1, _), (2, _)]) rfl dX3_zip_5 (by decide +kernel) rfl ?_
    refine sw_aload_n (pc' := 7) rfl dX3_zip_6 rfl ?_
    refine sw_iload_n (pc' := 8) rfl dX3_zip_7 rfl ?_
    refine sw_V (M' := MX3_walkAt) (d' := d - 1) (bc' := 1) (bs' := 6) (ci := 4) (as := [_]) dX3_zip_8 w_357 ok_X3_walkAt (m_walkAt_x hR (Nat.le_refl _) (Nat.le_refl _) q) hR.1 rfl (by omega) (Nat.le_of_ble_eq_true rfl) (by omega) (by omega) (dx_x (swx_out rfl ?_)) (fun v h' n' _ z => dx_k z)
    rw [opZip, onWk_k hk, onWk_x q]
    exact ⟨Nat.le_refl _, rfl, hR, FrC.rf⟩
  rcases Classical.em (nI k = nI j) with qe | qe
  · refine sw_aload_n (pc' := 1) rfl dX3_zip_0 rfl ?_
    refine sw_iload_n (pc' := 2) rfl dX3_zip_1 rfl ?_
    refine sw_V (M' := MX3_walkAt) (d' := d - 1) (bc' := 1) (bs' := 6) (ci := 4) (as := [_]) dX3_zip_2 w_357 ok_X3_walkAt (m_walkAt_k hR (Nat.le_refl _) (Nat.le_refl _) hk) hR.1 rfl (by omega) (Nat.le_of_ble_eq_true rfl) (by omega) (by omega) (fun E h' n' _ z => det_x z) (det_k ?_)
    refine sw_astore_n (pc' := 6) (lv' := [(3, _), (0, _), (1, _), (2, _)]) rfl dX3_zip_5 (by decide +kernel) rfl ?_
    refine sw_aload_n (pc' := 7) rfl dX3_zip_6 rfl ?_
    refine sw_iload_n (pc' := 8) rfl dX3_zip_7 rfl ?_
    refine sw_V (M' := MX3_walkAt) (d' := d - 1) (bc' := 1) (bs' := 6) (ci := 4) (as := [_]) dX3_zip_8 w_357 ok_X3_walkAt (m_walkAt_k hR (Nat.le_refl _) (Nat.le_refl _) hj) hR.1 rfl (by omega) (Nat.le_of_ble_eq_true rfl) (by omega) (by omega) (fun E h' n' _ z => det_x z) (det_k ?_)
    refine sw_astore (pc' := 13) (lv' := [(4, _), (3, _), (0, _), (1, _), (2, _)]) rfl dX3_zip_11 (by decide +kernel) rfl ?_
    refine sw_iload_n (pc' := 14) rfl dX3_zip_13 rfl ?_
    refine sw_iload_n (pc' := 15) rfl dX3_zip_14 rfl ?_
    refine sw_icmp_ne (pc' := 18) (tgt := 28) rfl dX3_zip_15 (by decide +kernel) (fun c15 => ?_) (fun c15 => ?_)
    · exact absurd qe c15
    · refine sw_throw (names := ["java/lang/RuntimeException", "java/lang/Exception"]) rfl dX3_zip_18 dX3_zip_21 dX3_zip_22 dX3_zip_24 dX3_zip_27 (by decide +kernel) (by decide +kernel) (by decide +kernel) w_285 w_50 (SRm 18 rfl) th_Overwalks_154 (by omega) (by omega) ?_
      rw [opZip, onWk_k hk, onWk_k hj, if_pos qe]
      exact ⟨Nat.le_refl _, rfl, hR, FrC.rf⟩
  rcases Classical.em ((σ.2.2.2.2.1 k).1 = false) with qk | qk
  · refine sw_aload_n (pc' := 1) rfl dX3_zip_0 rfl ?_
    refine sw_iload_n (pc' := 2) rfl dX3_zip_1 rfl ?_
    refine sw_V (M' := MX3_walkAt) (d' := d - 1) (bc' := 1) (bs' := 6) (ci := 4) (as := [_]) dX3_zip_2 w_357 ok_X3_walkAt (m_walkAt_k hR (Nat.le_refl _) (Nat.le_refl _) hk) hR.1 rfl (by omega) (Nat.le_of_ble_eq_true rfl) (by omega) (by omega) (fun E h' n' _ z => det_x z) (det_k ?_)
    refine sw_astore_n (pc' := 6) (lv' := [(3, _), (0, _), (1, _), (2, _)]) rfl dX3_zip_5 (by decide +kernel) rfl ?_
    refine sw_aload_n (pc' := 7) rfl dX3_zip_6 rfl ?_
    refine sw_iload_n (pc' := 8) rfl dX3_zip_7 rfl ?_
    refine sw_V (M' := MX3_walkAt) (d' := d - 1) (bc' := 1) (bs' := 6) (ci := 4) (as := [_]) dX3_zip_8 w_357 ok_X3_walkAt (m_walkAt_k hR (Nat.le_refl _) (Nat.le_refl _) hj) hR.1 rfl (by omega) (Nat.le_of_ble_eq_true rfl) (by omega) (by omega) (fun E h' n' _ z => det_x z) (det_k ?_)
    refine sw_astore (pc' := 13) (lv' := [(4, _), (3, _), (0, _), (1, _), (2, _)]) rfl dX3_zip_11 (by decide +kernel) rfl ?_
    refine sw_iload_n (pc' := 14) rfl dX3_zip_13 rfl ?_
    refine sw_iload_n (pc' := 15) rfl dX3_zip_14 rfl ?_
    refine sw_icmp_ne (pc' := 18) (tgt := 28) rfl dX3_zip_15 (by decide +kernel) (fun c15 => ?_) (fun c15 => ?_)
    · refine sw_aload_n (pc' := 29) rfl dX3_zip_28 rfl ?_
      refine sw_S (M' := MX3_requireMade) (d' := d - 1) (bc' := 1) (bs' := 6) (as := [_]) dX3_zip_29 w_640 ok_X3_requireMade (m_requireMade_x (hR.wk hk).2 (Nat.le_refl _) (Nat.le_refl _) qk) (by omega) (Nat.le_of_ble_eq_true rfl) (by omega) (by omega) (dx_x (swx_out rfl ?_)) (fun v h' n' _ z => dx_k z)
      rw [opZip, onWk_k hk, onWk_k hj, if_neg qe, if_pos qk]
      exact ⟨Nat.le_refl _, rfl, hR, FrC.rf⟩
    · exact absurd c15 qe
  rcases Classical.em ((σ.2.2.2.2.1 j).1 = false) with qj | qj
  · refine sw_aload_n (pc' := 1) rfl dX3_zip_0 rfl ?_
    refine sw_iload_n (pc' := 2) rfl dX3_zip_1 rfl ?_
    refine sw_V (M' := MX3_walkAt) (d' := d - 1) (bc' := 1) (bs' := 6) (ci := 4) (as := [_]) dX3_zip_2 w_357 ok_X3_walkAt (m_walkAt_k hR (Nat.le_refl _) (Nat.le_refl _) hk) hR.1 rfl (by omega) (Nat.le_of_ble_eq_true rfl) (by omega) (by omega) (fun E h' n' _ z => det_x z) (det_k ?_)
    refine sw_astore_n (pc' := 6) (lv' := [(3, _), (0, _), (1, _), (2, _)]) rfl dX3_zip_5 (by decide +kernel) rfl ?_
    refine sw_aload_n (pc' := 7) rfl dX3_zip_6 rfl ?_
    refine sw_iload_n (pc' := 8) rfl dX3_zip_7 rfl ?_
    refine sw_V (M' := MX3_walkAt) (d' := d - 1) (bc' := 1) (bs' := 6) (ci := 4) (as := [_]) dX3_zip_8 w_357 ok_X3_walkAt (m_walkAt_k hR (Nat.le_refl _) (Nat.le_refl _) hj) hR.1 rfl (by omega) (Nat.le_of_ble_eq_true rfl) (by omega) (by omega) (fun E h' n' _ z => det_x z) (det_k ?_)
    refine sw_astore (pc' := 13) (lv' := [(4, _), (3, _), (0, _), (1, _), (2, _)]) rfl dX3_zip_11 (by decide +kernel) rfl ?_
    refine sw_iload_n (pc' := 14) rfl dX3_zip_13 rfl ?_
    refine sw_iload_n (pc' := 15) rfl dX3_zip_14 rfl ?_
    refine sw_icmp_ne (pc' := 18) (tgt := 28) rfl dX3_zip_15 (by decide +kernel) (fun c15 => ?_) (fun c15 => ?_)
    · refine sw_aload_n (pc' := 29) rfl dX3_zip_28 rfl ?_
      refine sw_S (M' := MX3_requireMade) (d' := d - 1) (bc' := 1) (bs' := 6) (as := [_]) dX3_zip_29 w_640 ok_X3_requireMade (m_requireMade_k (hR.wk hk).2 (Nat.le_refl _) (Nat.le_refl _) qk) (by omega) (Nat.le_of_ble_eq_true rfl) (by omega) (by omega) (fun E h' n' _ z => det_x z) (det_k ?_)
      refine sw_aload (pc' := 34) rfl dX3_zip_32 rfl ?_
      refine sw_S (M' := MX3_requireMade) (d' := d - 1) (bc' := 1) (bs' := 6) (as := [_]) dX3_zip_34 w_640 ok_X3_requireMade (m_requireMade_x (hR.wk hj).2 (Nat.le_refl _) (Nat.le_refl _) qj) (by omega) (Nat.le_of_ble_eq_true rfl) (by omega) (by omega) (dx_x (swx_out rfl ?_)) (fun v h' n' _ z => dx_k z)
      rw [opZip, onWk_k hk, onWk_k hj, if_neg qe, if_neg qk, if_pos qj]
      exact ⟨Nat.le_refl _, rfl, hR, FrC.rf⟩
    · exact absurd c15 qe
  refine sw_aload_n (pc' := 1) rfl dX3_zip_0 rfl ?_
  refine sw_iload_n (pc' := 2) rfl dX3_zip_1 rfl ?_
  refine sw_V (M' := MX3_walkAt) (d' := d - 1) (bc' := 1) (bs' := 6) (ci := 4) (as := [_]) dX3_zip_2 w_357 ok_X3_walkAt (m_walkAt_k hR (Nat.le_refl _) (Nat.le_refl _) hk) hR.1 rfl (by omega) (Nat.le_of_ble_eq_true rfl) (by omega) (by omega) (fun E h' n' _ z => det_x z) (det_k ?_)
  refine sw_astore_n (pc' := 6) (lv' := [(3, _), (0, _), (1, _), (2, _)]) rfl dX3_zip_5 (by decide +kernel) rfl ?_
  refine sw_aload_n (pc' := 7) rfl dX3_zip_6 rfl ?_
  refine sw_iload_n (pc' := 8) rfl dX3_zip_7 rfl ?_
  refine sw_V (M' := MX3_walkAt) (d' := d - 1) (bc' := 1) (bs' := 6) (ci := 4) (as := [_]) dX3_zip_8 w_357 ok_X3_walkAt (m_walkAt_k hR (Nat.le_refl _) (Nat.le_refl _) hj) hR.1 rfl (by omega) (Nat.le_of_ble_eq_true rfl) (by omega) (by omega) (fun E h' n' _ z => det_x z) (det_k ?_)
  refine sw_astore (pc' := 13) (lv' := [(4, _), (3, _), (0, _), (1, _), (2, _)]) rfl dX3_zip_11 (by decide +kernel) rfl ?_
  refine sw_iload_n (pc' := 14) rfl dX3_zip_13 rfl ?_
  refine sw_iload_n (pc' := 15) rfl dX3_zip_14 rfl ?_
  refine sw_icmp_ne (pc' := 18) (tgt := 28) rfl dX3_zip_15 (by decide +kernel) (fun c15 => ?_) (fun c15 => ?_)
  · refine sw_aload_n (pc' := 29) rfl dX3_zip_28 rfl ?_
    refine sw_S (M' := MX3_requireMade) (d' := d - 1) (bc' := 1) (bs' := 6) (as := [_]) dX3_zip_29 w_640 ok_X3_requireMade (m_requireMade_k (hR.wk hk).2 (Nat.le_refl _) (Nat.le_refl _) qk) (by omega) (Nat.le_of_ble_eq_true rfl) (by omega) (by omega) (fun E h' n' _ z => det_x z) (det_k ?_)
    refine sw_aload (pc' := 34) rfl dX3_zip_32 rfl ?_
    refine sw_S (M' := MX3_requireMade) (d' := d - 1) (bc' := 1) (bs' := 6) (as := [_]) dX3_zip_34 w_640 ok_X3_requireMade (m_requireMade_k (hR.wk hj).2 (Nat.le_refl _) (Nat.le_refl _) qj) (by omega) (Nat.le_of_ble_eq_true rfl) (by omega) (by omega) (fun E h' n' _ z => det_x z) (det_k ?_)
    refine sw_aload_n (pc' := 38) rfl dX3_zip_37 rfl ?_
    refine sw_V (M' := MX2_isStale) (d' := d - 1) (bc' := 0) (bs' := 0) (ci := 3) (as := []) dX3_zip_38 w_284 ok_X2_isStale (m_isStale (hR.wk hk).2 (hR.sh (hR.wk hk).1)) (hR.wk hk).2.1 rfl (by omega) (Nat.le_of_ble_eq_true rfl) (Nat.zero_le _) (Nat.zero_le _) (fun E h' n' _ z => det_x z) (det_k ?_)
    refine sw_if_ne (pc' := 44) (tgt := 52) rfl dX3_zip_41 (by decide +kernel) (fun c41 => ?_) (fun c41 => ?_)
    · refine sw_aload_n (pc' := 53) rfl dX3_zip_52 rfl ?_
      refine sw_V (M' := MX3_refuse) (d' := d - 1) (bc' := 0) (bs' := 0) (ci := 4) (as := []) dX3_zip_53 w_439 ok_X3_refuse (m_refuse hR) hR.1 rfl (by omega) (Nat.le_of_ble_eq_true rfl) (Nat.zero_le _) (Nat.zero_le _) (fun E h' n' _ z => cp_x z) (cp_k (fun p pR pF => ?_))
      refine sw_pop (pc' := 57) rfl dX3_zip_56 rfl ?_
      refine sw_ldcS (pc' := 59) rfl dX3_zip_57 (SRm 15 rfl) (by decide +kernel) ?_
      refine sw_ret (v := some _) ⟨dX3_zip_59, _, rfl, Or.inl ⟨_, rfl⟩⟩ ?_
      rw [opZip, onWk_k hk, onWk_k hj, if_neg qe, if_neg qk, if_neg qj]
      rw [if_pos (Or.inl (show wSt σ k = true from bI_1 c41))]
      rw [tcZ_f hk hj (Or.inl (bI_1 c41))]
      exact ⟨Nat.le_refl _, ⟨40, 1, rfl, by omega, (hT.fr (fun i hi => pF i (Or.inl hi) (by omega))).2.2.2.2.2.2.n (by omega)⟩, pR, pF⟩
    · refine sw_aload (pc' := 46) rfl dX3_zip_44 rfl ?_
      refine sw_V (M' := MX2_isStale) (d' := d - 1) (bc' := 0) (bs' := 0) (ci := 3) (as := []) dX3_zip_46 w_284 ok_X2_isStale (m_isStale (hR.wk hj).2 (hR.sh (hR.wk hj).1)) (hR.wk hj).2.1 rfl (by omega) (Nat.le_of_ble_eq_true rfl) (Nat.zero_le _) (Nat.zero_le _) (fun E h' n' _ z => det_x z) (det_k ?_)
      refine sw_if_eq (pc' := 52) (tgt := 60) rfl dX3_zip_49 (by decide +kernel) (fun c49 => ?_) (fun c49 => ?_)
      · refine sw_new (ci := 1) (pc' := 63) rfl dX3_zip_60 (by decide +kernel) w_681 w_682 w_54 (by omega) (Nat.le_trans (Nat.le_of_ble_eq_true rfl) (show 4 ≤ _ by omega)) ?_
        refine sw_nm (fun g1 eg1 => ?_)
        have zg1 := (congrFun eg1 n).trans (up_s (h := h) (i := n))
        refine sw_dup (pc' := 64) rfl dX3_zip_63 rfl ?_
        have f1 : FN 1 = 4 := rfl
        refine sw_I (M' := MJ4_init_da8c8) (d' := d - 1) (bc' := 1) (bs' := 16) (as := []) dX3_zip_64 w_683 ok_J4_init_da8c8 (j_initSB (n0 := n) zg1 (Nat.le_refl _) (Nat.lt_succ_self _) (by omega) (Nat.le_refl _) (Nat.le_refl _) (by omega)) (by omega) (Nat.le_of_ble_eq_true rfl) (by omega) (by omega) (fun E h' n' _ z => sbo_x z) (sbo_k (fun p pn pk pS pF => ?_))
        refine sw_astore (pc' := 69) (lv' := [(5, _), (4, _), (3, _), (0, _), (1, _), (2, _)]) rfl dX3_zip_67 (by decide +kernel) rfl ?_
        refine sw_iconst (pc' := 70) (v := 0) rfl dX3_zip_69 (by decide +kernel) ?_
        refine sw_istore (pc' := 72) (lv' := [(6, _), (5, _), (4, _), (3, _), (0, _), (1, _), (2, _)]) rfl dX3_zip_70 (by decide +kernel) rfl ?_
        rw [opZip, onWk_k hk, onWk_k hj, if_neg qe, if_neg qk, if_neg qj, if_neg (fun g => g.elim (fun g => Bool.noConfusion ((show wSt σ k = false from bI_0 c41).symm.trans g)) (fun g => Bool.noConfusion ((show wSt σ j = false from bI_0 c49).symm.trans g))), tcZ_t hk hj (bI_0 c41) (bI_0 c49)]
        have pG : ∀ i, i < n → p i = h i := fun i hi => (pF i (Or.inl hi)).trans ((congrFun eg1 i).trans (up_n (by omega)))
        exact l_zip (N := N) hT hN hk hj (fun e => qe (by rw [e])) hn (by omega) 12 0 _ _ pn 0 16 p σ [] rfl (hR.frT (fun i hi => pG i (by omega))) hV (mkT qk) (mkT qj) (by omega) pS (by omega) (by omega) ⟨fun _ => rfl, fun _ => rfl⟩ (fun i _ hi => pG i hi) (by omega) (by omega)
      · refine sw_aload_n (pc' := 53) rfl dX3_zip_52 rfl ?_
        refine sw_V (M' := MX3_refuse) (d' := d - 1) (bc' := 0) (bs' := 0) (ci := 4) (as := []) dX3_zip_53 w_439 ok_X3_refuse (m_refuse hR) hR.1 rfl (by omega) (Nat.le_of_ble_eq_true rfl) (Nat.zero_le _) (Nat.zero_le _) (fun E h' n' _ z => cp_x z) (cp_k (fun p pR pF => ?_))
        refine sw_pop (pc' := 57) rfl dX3_zip_56 rfl ?_
        refine sw_ldcS (pc' := 59) rfl dX3_zip_57 (SRm 15 rfl) (by decide +kernel) ?_
        refine sw_ret (v := some _) ⟨dX3_zip_59, _, rfl, Or.inl ⟨_, rfl⟩⟩ ?_
        rw [opZip, onWk_k hk, onWk_k hj, if_neg qe, if_neg qk, if_neg qj]
        rw [if_pos (Or.inr (show wSt σ j = true from bI_1 c49))]
        rw [tcZ_f hk hj (Or.inr (bI_1 c49))]
        exact ⟨Nat.le_refl _, ⟨40, 1, rfl, by omega, (hT.fr (fun i hi => pF i (Or.inl hi) (by omega))).2.2.2.2.2.2.n (by omega)⟩, pR, pF⟩
  · exact absurd c15 qe
