section
/-! 54.init -/
/-! the constructors -/
theorem wsH_app {G : GD} {ad ad' : Nat → Nat} {h h' : AH} {n k : Nat} (h0 : nC ≤ n) (hcl : ∀ i, nC ≤ i → i < n → clE n (h i)) (e1 : ∀ i, i < n → ad' i = ad i) (e2 : ∀ i, i < n → h' i = h i) : wsH G ad' h' (n + k) = wsH G ad h n ++ (List.range k).map (fun j => (ad' (n + j), emE G.2.1 ad' (h' (n + j)))) := by
  unfold wsH
  rw [show n + k - nC = (n - nC) + k by omega, List.range_add, List.map_append, List.map_map]
  congr 1
  · apply List.map_congr_left
    intro j hj
    have := List.mem_range.mp hj
    rw [e1 _ (by omega), e2 _ (by omega), emE_eq (hcl _ (by omega) (by omega)) e1]
  · apply List.map_congr_left
    intro j _
    show (ad' (nC + (n - nC + j)), emE G.2.1 ad' (h' (nC + (n - nC + j)))) = _
    rw [show nC + (n - nC + j) = n + j by omega]
theorem Ext.up {ad0 ad ad' : Nat → Nat} {n0 n n' : Nat} (h : Ext ad0 ad n0 n) (hn : n ≤ n') (e : ∀ i, i < n → ad' i = ad i) : Ext ad0 ad' n0 n' := h.tr ⟨hn, e⟩
theorem LM.up {ad ad' : Nat → Nat} {nL n n' : Nat} {lv : List (Nat × Value)} {st : List Value} {ls : Array Slot} (hl : LM ad nL n lv st ls) (hn : n ≤ n') (e : ∀ i, i < n → ad' i = ad i) : LM ad' nL n' lv st ls := by
  refine ⟨?_, fun z hz => clV_mono (hl.2.1 z hz) hn, fun z hz => clV_mono (hl.2.2 z hz) hn⟩
  have e1 : lv.map (fun z => (z.1, em ad' z.2)) = lv.map (fun z => (z.1, em ad z.2)) := List.map_congr_left (fun z hz => by rw [em_eq (hl.2.1 z hz) e])
  rw [e1]
  exact hl.1
section
variable {SR : SRT} {M : MI} {d bc bs pc pc' n : Nat} {lv : List (Nat × Value)} {st : List Value} {h : AH} {Post : ARes → AH → Nat → Prop}
/-- rows of ints -/
theorem sw_mna {idx N' K' : Nat} {x y : Int32} (hp : pc + 4 = pc') (hdg : decode M.2.1 pc = .ok (.multianewarray idx 2, 4)) (hw1 : Cond.classLink M.1.cls idx "[[I" ∈ GT) (hw2 : Cond.arrayClass .int ∈ GT) (ex : x = nI N') (ey : y = nI K') (hN : N' ≤ 1000) (hK : K' ≤ 1000) (h1 : 1 + N' ≤ bc) (h2 : N' + N' * K' ≤ bs)
    (kk : ∀ h' : AH, h' n = .inl (5, N', .inr (.inr (.inr (.inr (fun i => if i < N' then some (n + 1 + i) else none))))) → (∀ i, i < N' → h' (n + 1 + i) = .inl (0, K', .inl (fun _ => 0))) → (∀ i, i < n → h' i = h i) → SW SR M d (bc - (1 + N')) (bs - (N' + N' * K')) pc' lv (.ref n :: st) h' (n + 1 + N') Post) : SW SR M d bc bs pc lv (.int y :: .int x :: st) h n Post := by
  subst hp ex ey
  intro G p l e R s m args below meth c A ad0 n0 Q hc hr he H locs cells slots ls ad hm hl hx hbc hbs
  obtain ⟨hx1, hb1, hr1, hml1, hown1, hts1, hlk1, htb1, hlt1, hin1, hK1, hN1, hSR1, hAO1, hC1, hA1⟩ := id hc
  have hl8 : LM ad M.2.2.1 n lv st ls := hl.stk (cl1 (cl1 hl.2.2))
  have hnC := hm.lt
  refine va_mna (X := wsH G ad h n) (L := []) (f := fun _ => .inr (0, [])) (ty := .int) (cy := G.2.1 0) (z := (K', .inl (fun _ => 0))) (N' := N') (K' := K') hx1 hb1 hown1 (hts1 _ hw1) hAO1.2.2.1 (hts1 _ hw2) (hK1.2 0 _ (tysAt (by decide +kernel))).2 hK1 (by rw [show va_pl [] (fun _ => (Sum.inr (0, []) : va_E)) = [] from rfl, List.append_nil]; exact hm.1) (by rw [show va_pl [] (fun _ => (Sum.inr (0, []) : va_E)) = [] from rfl, List.append_nil]; exact hm.2.1) hm.2.2.1 hA1 (nI_pos (by omega)) (nI_pos (by omega)) (nI_clamp (by omega)) (nI_clamp (by omega)) (by omega) (by show K' * 4 ≤ _; omega) (by omega) rfl rfl (by omega) (by omega) (fun c => ?_) hdg (fun q r cA H1 hinj _ hK9 hP hD hS => ?_)
  · show ({ cls := c, slots := Array.replicate K' (.int 0), vm := .none } : Cell) = _
    rw [arrV_new]
    rfl
  · have ec : cA = G.2.1 5 := by
      have g1 := (hK9.2 6 (cA, .array .int) rfl).2
      have g2 := (hK1.2 5 _ (tysAt (by decide +kernel))).2
      exact Option.some.inj (g1.symm.trans g2)
    subst ec
    rw [List.nil_append] at hP hD
    have hrow : va_pl ((List.range N').map r) (vr_up (fun _ => (Sum.inr (0, []) : va_E)) ((List.range N').map r) (.inl (G.2.1 0, (K', .inl (fun _ => 0))))) = (List.range N').map (fun i => (r i, (Sum.inl (G.2.1 0, (K', .inl (fun _ => 0))) : va_E))) := by
      unfold va_pl
      rw [List.map_map]
      apply List.map_congr_left
      intro i hi
      show (r i, vr_up _ _ _ (r i)) = _
      rw [vr_up_in (List.mem_map.mpr ⟨i, hi, rfl⟩)]
    rw [hrow] at hP hD
    let ad' : Nat → Nat := fun i => if i < n then ad i else if i = n then q else r (i - (n + 1))
    let h' : AH := fun i => if i < n then h i else if i = n then .inl (5, N', .inr (.inr (.inr (.inr (fun i => if i < N' then some (n + 1 + i) else none))))) else .inl (0, K', .inl (fun _ => 0))
    have a1 : ∀ i, i < n → ad' i = ad i := fun i hi => if_pos hi
    have b1 : ∀ i, i < n → h' i = h i := fun i hi => if_pos hi
    have a2 : ad' n = q := (if_neg (Nat.lt_irrefl n)).trans (if_pos rfl)
    have b2 : h' n = .inl (5, N', .inr (.inr (.inr (.inr (fun i => if i < N' then some (n + 1 + i) else none))))) := (if_neg (Nat.lt_irrefl n)).trans (if_pos rfl)
    have a3 : ∀ i, ad' (n + 1 + i) = r i := fun i => (if_neg (by omega)).trans ((if_neg (by omega)).trans (by rw [show n + 1 + i - (n + 1) = i by omega]))
    have b3 : ∀ i, h' (n + 1 + i) = .inl (0, K', .inl (fun _ => 0)) := fun i => (if_neg (by omega)).trans (if_neg (by omega))
    have hcl9 : ∀ i, nC ≤ i → i < n + 1 + N' → clE (n + 1 + N') (h' i) := by
      intro i g1 g2
      rcases Nat.lt_trichotomy i n with g | g | g
      · rw [b1 i g]
        exact clE_mono (hm.2.2.2.2.1 i g1 g) (by omega)
      · rw [g, b2]
        intro j z hz
        have hz9 : (if j < N' then some (n + 1 + j) else none) = some z := hz
        by_cases e : j < N'
        · rw [if_pos e] at hz9
          cases hz9
          omega
        · rw [if_neg e] at hz9
          cases hz9
      · obtain ⟨j, rfl⟩ : ∃ j, i = n + 1 + j := ⟨i - (n + 1), by omega⟩
        rw [b3 j]
        trivial
    have hw9 : wsH G ad' h' (n + 1 + N') = (wsH G ad h n ++ [(q, (Sum.inl (G.2.1 5, N', .inr (.inr (.inr (.inr (fun i => if i < N' then some (r i) else none))))) : va_E))]) ++ (List.range N').map (fun i => (r i, (Sum.inl (G.2.1 0, (K', .inl (fun _ => 0))) : va_E))) := by
      rw [show n + 1 + N' = n + (1 + N') by omega, wsH_app hnC hm.2.2.2.2.1 a1 b1, List.append_assoc]
      congr 1
      rw [List.range_add, List.map_append, List.map_map]
      congr 1
      · show [(ad' (n + 0), emE G.2.1 ad' (h' (n + 0)))] = _
        rw [Nat.add_zero, a2, b2]
        show [(q, (Sum.inl (G.2.1 5, N', .inr (.inr (.inr (.inr (fun j => (if j < N' then some (n + 1 + j) else none).map ad'))))) : va_E))] = _
        have e9 : (fun j => (if j < N' then some (n + 1 + j) else none).map ad') = fun i => if i < N' then some (r i) else none := by
          funext j
          by_cases e : j < N'
          · rw [if_pos e, if_pos e]
            exact congrArg some (a3 j)
          · rw [if_neg e, if_neg e]
            rfl
        rw [e9]
      · apply List.map_congr_left
        intro i _
        show (ad' (n + (1 + i)), emE G.2.1 ad' (h' (n + (1 + i)))) = _
        rw [← Nat.add_assoc, a3, b3]
        rfl
    rw [← hw9] at hP hD
    have hm9 : HM G A s.heap h' (n + 1 + N') H1 locs ad' := ⟨hP, hD, hS, by omega, hcl9, fun i g => by rw [b1 i (by omega), a1 i (by omega)]; exact hm.2.2.2.2.2 i g⟩
    have k9 := kk h' b2 (fun i _ => b3 i) b1 G p l e R s m args below meth c A ad0 n0 Q hc hr he H1 locs (cells + 1 + N') (slots + N' + N' * K') ls ad' hm9 ((hl8.up (n' := n + 1 + N') (by omega) a1).stk (clc (hl8.up (n' := n + 1 + N') (by omega) a1).2.2 (fun i g => by cases g; exact (show n < n + 1 + N' from by omega)))) (hx.up (by omega) a1) (by omega) (by omega)
    rw [List.map_cons, show em ad' (.ref n) = .ref q from congrArg Value.ref a2, List.map_congr_left (fun v hv => em_eq (hl8.2.2 v hv) a1)] at k9
    exact k9
end
/-- as it begins -/
def s0 : CS := (fun _ _ => 0, fun _ => 0, fun _ => 0, fun _ => 0, fun _ => (false, 0, 0, 0, 0, 0, 0, false), 0, 0)
/-- i SHELVES are made -/
def C1 (h p : AH) (i : Nat) : Prop := p 100 = .inr (4, dfs 4) ∧ (∃ g, p 101 = .inl (3, 11, .inr (.inr (.inr (.inr g)))) ∧ ∀ k, k < i → g k = some (102 + 2 * k)) ∧ (∀ k, k < i → ShF p (102 + 2 * k) (kdO k) (fun _ => 0) 0 0 0) ∧ ∀ j, j < 100 → p j = h j
theorem C1.next {h p p2 p3 : AH} {i b : Nat} {g : Nat → Option Nat} (hC : C1 h p i) (hi : i < 11) (hb : b = 102 + 2 * i) (hS : ShF p2 b (kdO i) (fun _ => 0) 0 0 0) (hF : ∀ j, j ≠ b → j ≠ b + 1 → p2 j = p j) (hg : p2 101 = .inl (3, 11, .inr (.inr (.inr (.inr g))))) (h3 : p3 = up p2 101 (.inl (3, 11, .inr (.inr (.inr (.inr (up g i (some b)))))))) : C1 h p3 (i + 1) := by
  subst hb h3
  obtain ⟨h1, ⟨g', h2, h2'⟩, h3, h4⟩ := hC
  have eg : g' = g := by
    rw [hF 101 (by omega) (by omega), h2] at hg
    cases hg
    rfl
  subst eg
  refine ⟨(up_n (by decide +kernel)).trans ((hF 100 (by omega) (by omega)).trans h1), ⟨_, up_s, fun k hk => ?_⟩, fun k hk => ?_, fun j hj => (up_n (by omega)).trans ((hF j (by omega) (by omega)).trans (h4 j hj))⟩
  · by_cases e : k = i
    · rw [e, up_s]
    · rw [up_n e]
      exact h2' k (by omega)
  · by_cases e : k = i
    · rw [e]
      exact ⟨(up_n (by omega)).trans hS.1, (up_n (by omega)).trans hS.2.1, hS.2.2⟩
    · have z := h3 k (by omega)
      exact ⟨(up_n (by omega)).trans ((hF _ (by omega) (by omega)).trans z.1), (up_n (by omega)).trans ((hF _ (by omega) (by omega)).trans z.2.1), z.2.2⟩
/-- all SHELVES and i WALKS are made -/
def C2 (h p : AH) (i : Nat) : Prop := p 100 = .inr (4, [.ref 101, .ref 124, .null, .null, .null, .int 0, .int 0]) ∧ (∃ g, p 101 = .inl (3, 11, .inr (.inr (.inr (.inr g)))) ∧ ∀ k, k < 11 → g k = some (102 + 2 * k)) ∧ (∀ k, k < 11 → ShF p (102 + 2 * k) (kdO k) (fun _ => 0) 0 0 0) ∧ (∃ g, p 124 = .inl (4, 6, .inr (.inr (.inr (.inr g)))) ∧ ∀ k, k < i → g k = some (125 + k)) ∧ (∀ k, k < i → WkF p (125 + k) false 102 0 0 0 0 0 0 false) ∧ ∀ j, j < 100 → p j = h j
theorem C2.next {h p p2 p3 : AH} {i b : Nat} {g : Nat → Option Nat} (hC : C2 h p i) (hi : i < 6) (hb : b = 125 + i) (hS : WkF p2 b false 102 0 0 0 0 0 0 false) (hF : ∀ j, j ≠ b → p2 j = p j) (hg : p2 124 = .inl (4, 6, .inr (.inr (.inr (.inr g))))) (h3 : p3 = up p2 124 (.inl (4, 6, .inr (.inr (.inr (.inr (up g i (some b)))))))) : C2 h p3 (i + 1) := by
  subst hb h3
  obtain ⟨h1, ⟨g1, h2, h2'⟩, h3, ⟨g', h5, h5'⟩, h6, h4⟩ := hC
  have eg : g' = g := by
    rw [hF 124 (by omega), h5] at hg
    cases hg
    rfl
  subst eg
  refine ⟨(up_n (by decide +kernel)).trans ((hF 100 (by omega)).trans h1), ⟨g1, (up_n (by decide +kernel)).trans ((hF 101 (by omega)).trans h2), h2'⟩, fun k hk => ?_, ⟨_, up_s, fun k hk => ?_⟩, fun k hk => ?_, fun j hj => (up_n (by omega)).trans ((hF j (by omega)).trans (h4 j hj))⟩
  · have z := h3 k hk
    exact ⟨(up_n (by omega)).trans ((hF _ (by omega)).trans z.1), (up_n (by omega)).trans ((hF _ (by omega)).trans z.2.1), z.2.2⟩
  · by_cases e : k = i
    · rw [e, up_s]
    · rw [up_n e]
      exact h5' k (by omega)
  · by_cases e : k = i
    · rw [e]
      exact ⟨(up_n (by omega)).trans hS.1, hS.2⟩
    · have z := h6 k (by omega)
      exact ⟨(up_n (by omega)).trans ((hF _ (by omega)).trans z.1), z.2⟩
theorem m_initOut {h : AH} {d bc bs n o : Nat} : SM SR0 MX4_init d bc bs [.ref o] h n (Det ivN h n) := by
  refine sm_of pn_OverwalksLaw_Out rfl (Nat.le_of_ble_eq_true rfl) ?_
  refine sw_aload_n (pc' := 1) rfl dX4_init_0 rfl ?_
  refine sw_objInit (pc' := 4) rfl dX4_init_1 w_384 w_69 w_70 (Nat.le_of_ble_eq_true rfl) ?_
  refine sw_ret (v := none) ⟨dX4_init_4, rfl⟩ ?_
  exact ⟨rfl, rfl, rfl⟩
def IC (h : AH) : ARes → AH → Nat → Prop := fun r h' n' => r = .inl none ∧ n' = 135 ∧ RC h' s0 ∧ ∀ i, i < 100 → h' i = h i
theorem m_initClass {h : AH} {d bc bs : Nat} (h0 : h 100 = .inr (4, dfs 4)) (hK : ∀ k, 1 ≤ k → k ≤ 5 → KdF h k) (hd : 2 ≤ d) (h1 : 40 ≤ bc) (h2 : 400 ≤ bs) : SM SR0 MX3_init d bc bs [.ref 100] h 101 (IC h) := by
  have f2 : FN 2 = 5 := rfl
  have f3 : FN 3 = 9 := rfl
  refine sm_of pn_Overwalks rfl (Nat.le_of_ble_eq_true rfl) ?_
  refine sw_aload_n (pc' := 1) rfl dX3_init_0 rfl ?_
  refine sw_objInit (pc' := 4) rfl dX3_init_1 w_68 w_69 w_70 (Nat.le_of_ble_eq_true rfl) ?_
  refine sw_aload_n (pc' := 5) rfl dX3_init_4 rfl ?_
  refine sw_bipush (pc' := 7) (v := 11) rfl dX3_init_5 (by decide +kernel) ?_
  refine sw_newq (t := 3) (len := 11) (pc' := 10) rfl dX3_init_7 (Or.inl rfl) (fun C e => by cases e; exact w_71) rfl (by decide +kernel) (by omega) (by omega) ?_
  refine sw_nm (fun g1 eg1 => ?_)
  have zg1 := (congrFun eg1 101).trans (up_s (h := h) (i := 101))
  have hC0 : C1 h g1 0 := ⟨(((congrFun eg1 100).trans (up_n (by omega))).trans h0), ⟨_, zg1, fun k hk => absurd hk (Nat.not_lt_zero _)⟩, fun k hk => absurd hk (Nat.not_lt_zero _), fun i hi => (congrFun eg1 i).trans ((up_n (by omega)).trans (rfl))⟩
  obtain ⟨gg0, hg0, -⟩ := id hC0.2.1
  refine sw_dup (pc' := 11) rfl dX3_init_10 rfl ?_
  refine sw_iconst (pc' := 12) (v := 0) rfl dX3_init_11 (by decide +kernel) ?_
  refine sw_new (ci := 2) (pc' := 15) rfl dX3_init_12 (by decide +kernel) w_71 w_73 w_40 (by omega) (Nat.le_trans (Nat.le_of_ble_eq_true rfl) (show 5 ≤ _ by omega)) ?_
  refine sw_nm (fun g2 eg2 => ?_)
  have zg2 := (congrFun eg2 102).trans (up_s (h := g1) (i := 102))
  refine sw_dup (pc' := 16) rfl dX3_init_15 rfl ?_
  refine sw_gets (pc' := 19) rfl dX3_init_16 (v := .ref 1) (by decide +kernel) w_74 ?_
  refine sw_I (M' := MX1_init) (d' := d - 1) (bc' := 1) (bs' := 12) (as := [_]) dX3_init_19 w_76 ok_X1_init (m_initShelf (b := 102) zg2 (by show 100 ≤ _; omega) (Nat.le_refl _) (Nat.le_refl _)) (by omega) (Nat.le_of_ble_eq_true rfl) (by omega) (by omega) (fun E h' n' _ z => shp_x z) (shp_k (fun s102 s102S s102F => ?_))
  have s102G : ∀ j, j ≠ 102 → j ≠ 102 + 1 → s102 j = g1 j := fun i h1 h2 => (s102F i h1 h2).trans ((congrFun eg2 i).trans ((up_n h1).trans (rfl)))
  refine sw_aast (j := 0) (pc' := 23) rfl dX3_init_22 ((s102G 101 (by decide +kernel) (by decide +kernel)).trans hg0) (Or.inl ⟨rfl, rfl⟩) (by show 100 ≤ _; omega) rfl (by decide +kernel) (by decide +kernel) s102S.1 (by show 100 ≤ _; omega) ?_
  refine sw_nm (fun r03 er03 => ?_)
  have hC1 : C1 h r03 1 := C1.next hC0 (by decide +kernel) (by decide +kernel) s102S s102G ((s102G 101 (by decide +kernel) (by decide +kernel)).trans hg0) er03
  obtain ⟨gg1, hg1, -⟩ := id hC1.2.1
  refine sw_dup (pc' := 24) rfl dX3_init_23 rfl ?_
  refine sw_iconst (pc' := 25) (v := 1) rfl dX3_init_24 (by decide +kernel) ?_
  refine sw_new (ci := 2) (pc' := 28) rfl dX3_init_25 (by decide +kernel) w_71 w_73 w_40 (by omega) (Nat.le_trans (Nat.le_of_ble_eq_true rfl) (show 5 ≤ _ by omega)) ?_
  refine sw_nm (fun g3 eg3 => ?_)
  have zg3 := (congrFun eg3 104).trans (up_s (h := r03) (i := 104))
  refine sw_dup (pc' := 29) rfl dX3_init_28 rfl ?_
  refine sw_gets (pc' := 32) rfl dX3_init_29 (v := .ref 1) (by decide +kernel) w_74 ?_
  refine sw_I (M' := MX1_init) (d' := d - 1) (bc' := 1) (bs' := 12) (as := [_]) dX3_init_32 w_76 ok_X1_init (m_initShelf (b := 104) zg3 (by show 100 ≤ _; omega) (Nat.le_refl _) (Nat.le_refl _)) (by omega) (Nat.le_of_ble_eq_true rfl) (by omega) (by omega) (fun E h' n' _ z => shp_x z) (shp_k (fun s104 s104S s104F => ?_))
  have s104G : ∀ j, j ≠ 104 → j ≠ 104 + 1 → s104 j = r03 j := fun i h1 h2 => (s104F i h1 h2).trans ((congrFun eg3 i).trans ((up_n h1).trans (rfl)))
  refine sw_aast (j := 1) (pc' := 36) rfl dX3_init_35 ((s104G 101 (by decide +kernel) (by decide +kernel)).trans hg1) (Or.inl ⟨rfl, rfl⟩) (by show 100 ≤ _; omega) rfl (by decide +kernel) (by decide +kernel) s104S.1 (by show 100 ≤ _; omega) ?_
  refine sw_nm (fun r13 er13 => ?_)
  have hC2 : C1 h r13 2 := C1.next hC1 (by decide +kernel) (by decide +kernel) s104S s104G ((s104G 101 (by decide +kernel) (by decide +kernel)).trans hg1) er13
  obtain ⟨gg2, hg2, -⟩ := id hC2.2.1
  refine sw_dup (pc' := 37) rfl dX3_init_36 rfl ?_
  refine sw_iconst (pc' := 38) (v := 2) rfl dX3_init_37 (by decide +kernel) ?_
  refine sw_new (ci := 2) (pc' := 41) rfl dX3_init_38 (by decide +kernel) w_71 w_73 w_40 (by omega) (Nat.le_trans (Nat.le_of_ble_eq_true rfl) (show 5 ≤ _ by omega)) ?_
  refine sw_nm (fun g4 eg4 => ?_)
  have zg4 := (congrFun eg4 106).trans (up_s (h := r13) (i := 106))
  refine sw_dup (pc' := 42) rfl dX3_init_41 rfl ?_
  refine sw_gets (pc' := 45) rfl dX3_init_42 (v := .ref 1) (by decide +kernel) w_74 ?_
  refine sw_I (M' := MX1_init) (d' := d - 1) (bc' := 1) (bs' := 12) (as := [_]) dX3_init_45 w_76 ok_X1_init (m_initShelf (b := 106) zg4 (by show 100 ≤ _; omega) (Nat.le_refl _) (Nat.le_refl _)) (by omega) (Nat.le_of_ble_eq_true rfl) (by omega) (by omega) (fun E h' n' _ z => shp_x z) (shp_k (fun s106 s106S s106F => ?_))
  have s106G : ∀ j, j ≠ 106 → j ≠ 106 + 1 → s106 j = r13 j := fun i h1 h2 => (s106F i h1 h2).trans ((congrFun eg4 i).trans ((up_n h1).trans (rfl)))
  refine sw_aast (j := 2) (pc' := 49) rfl dX3_init_48 ((s106G 101 (by decide +kernel) (by decide +kernel)).trans hg2) (Or.inl ⟨rfl, rfl⟩) (by show 100 ≤ _; omega) rfl (by decide +kernel) (by decide +kernel) s106S.1 (by show 100 ≤ _; omega) ?_
  refine sw_nm (fun r23 er23 => ?_)
  have hC3 : C1 h r23 3 := C1.next hC2 (by decide +kernel) (by decide +kernel) s106S s106G ((s106G 101 (by decide +kernel) (by decide +kernel)).trans hg2) er23
  obtain ⟨gg3, hg3, -⟩ := id hC3.2.1
  refine sw_dup (pc' := 50) rfl dX3_init_49 rfl ?_
  refine sw_iconst (pc' := 51) (v := 3) rfl dX3_init_50 (by decide +kernel) ?_
  refine sw_new (ci := 2) (pc' := 54) rfl dX3_init_51 (by decide +kernel) w_71 w_73 w_40 (by omega) (Nat.le_trans (Nat.le_of_ble_eq_true rfl) (show 5 ≤ _ by omega)) ?_
  refine sw_nm (fun g5 eg5 => ?_)
  have zg5 := (congrFun eg5 108).trans (up_s (h := r23) (i := 108))
  refine sw_dup (pc' := 55) rfl dX3_init_54 rfl ?_
  refine sw_gets (pc' := 58) rfl dX3_init_55 (v := .ref 2) (by decide +kernel) w_102 ?_
  refine sw_I (M' := MX1_init) (d' := d - 1) (bc' := 1) (bs' := 12) (as := [_]) dX3_init_58 w_76 ok_X1_init (m_initShelf (b := 108) zg5 (by show 100 ≤ _; omega) (Nat.le_refl _) (Nat.le_refl _)) (by omega) (Nat.le_of_ble_eq_true rfl) (by omega) (by omega) (fun E h' n' _ z => shp_x z) (shp_k (fun s108 s108S s108F => ?_))
  have s108G : ∀ j, j ≠ 108 → j ≠ 108 + 1 → s108 j = r23 j := fun i h1 h2 => (s108F i h1 h2).trans ((congrFun eg5 i).trans ((up_n h1).trans (rfl)))
  refine sw_aast (j := 3) (pc' := 62) rfl dX3_init_61 ((s108G 101 (by decide +kernel) (by decide +kernel)).trans hg3) (Or.inl ⟨rfl, rfl⟩) (by show 100 ≤ _; omega) rfl (by decide +kernel) (by decide +kernel) s108S.1 (by show 100 ≤ _; omega) ?_
  refine sw_nm (fun r33 er33 => ?_)
  have hC4 : C1 h r33 4 := C1.next hC3 (by decide +kernel) (by decide +kernel) s108S s108G ((s108G 101 (by decide +kernel) (by decide +kernel)).trans hg3) er33
  obtain ⟨gg4, hg4, -⟩ := id hC4.2.1
  refine sw_dup (pc' := 63) rfl dX3_init_62 rfl ?_
  refine sw_iconst (pc' := 64) (v := 4) rfl dX3_init_63 (by decide +kernel) ?_
  refine sw_new (ci := 2) (pc' := 67) rfl dX3_init_64 (by decide +kernel) w_71 w_73 w_40 (by omega) (Nat.le_trans (Nat.le_of_ble_eq_true rfl) (show 5 ≤ _ by omega)) ?_
  refine sw_nm (fun g6 eg6 => ?_)
  have zg6 := (congrFun eg6 110).trans (up_s (h := r33) (i := 110))
  refine sw_dup (pc' := 68) rfl dX3_init_67 rfl ?_
  refine sw_gets (pc' := 71) rfl dX3_init_68 (v := .ref 3) (by decide +kernel) w_104 ?_
  refine sw_I (M' := MX1_init) (d' := d - 1) (bc' := 1) (bs' := 12) (as := [_]) dX3_init_71 w_76 ok_X1_init (m_initShelf (b := 110) zg6 (by show 100 ≤ _; omega) (Nat.le_refl _) (Nat.le_refl _)) (by omega) (Nat.le_of_ble_eq_true rfl) (by omega) (by omega) (fun E h' n' _ z => shp_x z) (shp_k (fun s110 s110S s110F => ?_))
  have s110G : ∀ j, j ≠ 110 → j ≠ 110 + 1 → s110 j = r33 j := fun i h1 h2 => (s110F i h1 h2).trans ((congrFun eg6 i).trans ((up_n h1).trans (rfl)))
  refine sw_aast (j := 4) (pc' := 75) rfl dX3_init_74 ((s110G 101 (by decide +kernel) (by decide +kernel)).trans hg4) (Or.inl ⟨rfl, rfl⟩) (by show 100 ≤ _; omega) rfl (by decide +kernel) (by decide +kernel) s110S.1 (by show 100 ≤ _; omega) ?_
  refine sw_nm (fun r43 er43 => ?_)
  have hC5 : C1 h r43 5 := C1.next hC4 (by decide +kernel) (by decide +kernel) s110S s110G ((s110G 101 (by decide +kernel) (by decide +kernel)).trans hg4) er43
  obtain ⟨gg5, hg5, -⟩ := id hC5.2.1
  refine sw_dup (pc' := 76) rfl dX3_init_75 rfl ?_
  refine sw_iconst (pc' := 77) (v := 5) rfl dX3_init_76 (by decide +kernel) ?_
  refine sw_new (ci := 2) (pc' := 80) rfl dX3_init_77 (by decide +kernel) w_71 w_73 w_40 (by omega) (Nat.le_trans (Nat.le_of_ble_eq_true rfl) (show 5 ≤ _ by omega)) ?_
  refine sw_nm (fun g7 eg7 => ?_)
  have zg7 := (congrFun eg7 112).trans (up_s (h := r43) (i := 112))
  refine sw_dup (pc' := 81) rfl dX3_init_80 rfl ?_
  refine sw_gets (pc' := 84) rfl dX3_init_81 (v := .ref 4) (by decide +kernel) w_106 ?_
  refine sw_I (M' := MX1_init) (d' := d - 1) (bc' := 1) (bs' := 12) (as := [_]) dX3_init_84 w_76 ok_X1_init (m_initShelf (b := 112) zg7 (by show 100 ≤ _; omega) (Nat.le_refl _) (Nat.le_refl _)) (by omega) (Nat.le_of_ble_eq_true rfl) (by omega) (by omega) (fun E h' n' _ z => shp_x z) (shp_k (fun s112 s112S s112F => ?_))
  have s112G : ∀ j, j ≠ 112 → j ≠ 112 + 1 → s112 j = r43 j := fun i h1 h2 => (s112F i h1 h2).trans ((congrFun eg7 i).trans ((up_n h1).trans (rfl)))
  refine sw_aast (j := 5) (pc' := 88) rfl dX3_init_87 ((s112G 101 (by decide +kernel) (by decide +kernel)).trans hg5) (Or.inl ⟨rfl, rfl⟩) (by show 100 ≤ _; omega) rfl (by decide +kernel) (by decide +kernel) s112S.1 (by show 100 ≤ _; omega) ?_
  refine sw_nm (fun r53 er53 => ?_)
  have hC6 : C1 h r53 6 := C1.next hC5 (by decide +kernel) (by decide +kernel) s112S s112G ((s112G 101 (by decide +kernel) (by decide +kernel)).trans hg5) er53
  obtain ⟨gg6, hg6, -⟩ := id hC6.2.1
  refine sw_dup (pc' := 89) rfl dX3_init_88 rfl ?_
  refine sw_bipush (pc' := 91) (v := 6) rfl dX3_init_89 (by decide +kernel) ?_
  refine sw_new (ci := 2) (pc' := 94) rfl dX3_init_91 (by decide +kernel) w_71 w_73 w_40 (by omega) (Nat.le_trans (Nat.le_of_ble_eq_true rfl) (show 5 ≤ _ by omega)) ?_
  refine sw_nm (fun g8 eg8 => ?_)
  have zg8 := (congrFun eg8 114).trans (up_s (h := r53) (i := 114))
  refine sw_dup (pc' := 95) rfl dX3_init_94 rfl ?_
  refine sw_gets (pc' := 98) rfl dX3_init_95 (v := .ref 5) (by decide +kernel) w_108 ?_
  refine sw_I (M' := MX1_init) (d' := d - 1) (bc' := 1) (bs' := 12) (as := [_]) dX3_init_98 w_76 ok_X1_init (m_initShelf (b := 114) zg8 (by show 100 ≤ _; omega) (Nat.le_refl _) (Nat.le_refl _)) (by omega) (Nat.le_of_ble_eq_true rfl) (by omega) (by omega) (fun E h' n' _ z => shp_x z) (shp_k (fun s114 s114S s114F => ?_))
  have s114G : ∀ j, j ≠ 114 → j ≠ 114 + 1 → s114 j = r53 j := fun i h1 h2 => (s114F i h1 h2).trans ((congrFun eg8 i).trans ((up_n h1).trans (rfl)))
  refine sw_aast (j := 6) (pc' := 102) rfl dX3_init_101 ((s114G 101 (by decide +kernel) (by decide +kernel)).trans hg6) (Or.inl ⟨rfl, rfl⟩) (by show 100 ≤ _; omega) rfl (by decide +kernel) (by decide +kernel) s114S.1 (by show 100 ≤ _; omega) ?_
  refine sw_nm (fun r63 er63 => ?_)
  have hC7 : C1 h r63 7 := C1.next hC6 (by decide +kernel) (by decide +kernel) s114S s114G ((s114G 101 (by decide +kernel) (by decide +kernel)).trans hg6) er63
  obtain ⟨gg7, hg7, -⟩ := id hC7.2.1
  refine sw_dup (pc' := 103) rfl dX3_init_102 rfl ?_
  refine sw_bipush (pc' := 105) (v := 7) rfl dX3_init_103 (by decide +kernel) ?_
  refine sw_new (ci := 2) (pc' := 108) rfl dX3_init_105 (by decide +kernel) w_71 w_73 w_40 (by omega) (Nat.le_trans (Nat.le_of_ble_eq_true rfl) (show 5 ≤ _ by omega)) ?_
  refine sw_nm (fun g9 eg9 => ?_)
  have zg9 := (congrFun eg9 116).trans (up_s (h := r63) (i := 116))
  refine sw_dup (pc' := 109) rfl dX3_init_108 rfl ?_
  refine sw_gets (pc' := 112) rfl dX3_init_109 (v := .ref 5) (by decide +kernel) w_108 ?_
  refine sw_I (M' := MX1_init) (d' := d - 1) (bc' := 1) (bs' := 12) (as := [_]) dX3_init_112 w_76 ok_X1_init (m_initShelf (b := 116) zg9 (by show 100 ≤ _; omega) (Nat.le_refl _) (Nat.le_refl _)) (by omega) (Nat.le_of_ble_eq_true rfl) (by omega) (by omega) (fun E h' n' _ z => shp_x z) (shp_k (fun s116 s116S s116F => ?_))
  have s116G : ∀ j, j ≠ 116 → j ≠ 116 + 1 → s116 j = r63 j := fun i h1 h2 => (s116F i h1 h2).trans ((congrFun eg9 i).trans ((up_n h1).trans (rfl)))
  refine sw_aast (j := 7) (pc' := 116) rfl dX3_init_115 ((s116G 101 (by decide +kernel) (by decide +kernel)).trans hg7) (Or.inl ⟨rfl, rfl⟩) (by show 100 ≤ _; omega) rfl (by decide +kernel) (by decide +kernel) s116S.1 (by show 100 ≤ _; omega) ?_
  refine sw_nm (fun r73 er73 => ?_)
  have hC8 : C1 h r73 8 := C1.next hC7 (by decide +kernel) (by decide +kernel) s116S s116G ((s116G 101 (by decide +kernel) (by decide +kernel)).trans hg7) er73
  obtain ⟨gg8, hg8, -⟩ := id hC8.2.1
  refine sw_dup (pc' := 117) rfl dX3_init_116 rfl ?_
  refine sw_bipush (pc' := 119) (v := 8) rfl dX3_init_117 (by decide +kernel) ?_
  refine sw_new (ci := 2) (pc' := 122) rfl dX3_init_119 (by decide +kernel) w_71 w_73 w_40 (by omega) (Nat.le_trans (Nat.le_of_ble_eq_true rfl) (show 5 ≤ _ by omega)) ?_
  refine sw_nm (fun g10 eg10 => ?_)
  have zg10 := (congrFun eg10 118).trans (up_s (h := r73) (i := 118))
  refine sw_dup (pc' := 123) rfl dX3_init_122 rfl ?_
  refine sw_gets (pc' := 126) rfl dX3_init_123 (v := .ref 1) (by decide +kernel) w_74 ?_
  refine sw_I (M' := MX1_init) (d' := d - 1) (bc' := 1) (bs' := 12) (as := [_]) dX3_init_126 w_76 ok_X1_init (m_initShelf (b := 118) zg10 (by show 100 ≤ _; omega) (Nat.le_refl _) (Nat.le_refl _)) (by omega) (Nat.le_of_ble_eq_true rfl) (by omega) (by omega) (fun E h' n' _ z => shp_x z) (shp_k (fun s118 s118S s118F => ?_))
  have s118G : ∀ j, j ≠ 118 → j ≠ 118 + 1 → s118 j = r73 j := fun i h1 h2 => (s118F i h1 h2).trans ((congrFun eg10 i).trans ((up_n h1).trans (rfl)))
  refine sw_aast (j := 8) (pc' := 130) rfl dX3_init_129 ((s118G 101 (by decide +kernel) (by decide +kernel)).trans hg8) (Or.inl ⟨rfl, rfl⟩) (by show 100 ≤ _; omega) rfl (by decide +kernel) (by decide +kernel) s118S.1 (by show 100 ≤ _; omega) ?_
  refine sw_nm (fun r83 er83 => ?_)
  have hC9 : C1 h r83 9 := C1.next hC8 (by decide +kernel) (by decide +kernel) s118S s118G ((s118G 101 (by decide +kernel) (by decide +kernel)).trans hg8) er83
  obtain ⟨gg9, hg9, -⟩ := id hC9.2.1
  refine sw_dup (pc' := 131) rfl dX3_init_130 rfl ?_
  refine sw_bipush (pc' := 133) (v := 9) rfl dX3_init_131 (by decide +kernel) ?_
  refine sw_new (ci := 2) (pc' := 136) rfl dX3_init_133 (by decide +kernel) w_71 w_73 w_40 (by omega) (Nat.le_trans (Nat.le_of_ble_eq_true rfl) (show 5 ≤ _ by omega)) ?_
  refine sw_nm (fun g11 eg11 => ?_)
  have zg11 := (congrFun eg11 120).trans (up_s (h := r83) (i := 120))
  refine sw_dup (pc' := 137) rfl dX3_init_136 rfl ?_
  refine sw_gets (pc' := 140) rfl dX3_init_137 (v := .ref 1) (by decide +kernel) w_74 ?_
  refine sw_I (M' := MX1_init) (d' := d - 1) (bc' := 1) (bs' := 12) (as := [_]) dX3_init_140 w_76 ok_X1_init (m_initShelf (b := 120) zg11 (by show 100 ≤ _; omega) (Nat.le_refl _) (Nat.le_refl _)) (by omega) (Nat.le_of_ble_eq_true rfl) (by omega) (by omega) (fun E h' n' _ z => shp_x z) (shp_k (fun s120 s120S s120F => ?_))
  have s120G : ∀ j, j ≠ 120 → j ≠ 120 + 1 → s120 j = r83 j := fun i h1 h2 => (s120F i h1 h2).trans ((congrFun eg11 i).trans ((up_n h1).trans (rfl)))
  refine sw_aast (j := 9) (pc' := 144) rfl dX3_init_143 ((s120G 101 (by decide +kernel) (by decide +kernel)).trans hg9) (Or.inl ⟨rfl, rfl⟩) (by show 100 ≤ _; omega) rfl (by decide +kernel) (by decide +kernel) s120S.1 (by show 100 ≤ _; omega) ?_
  refine sw_nm (fun r93 er93 => ?_)
  have hC10 : C1 h r93 10 := C1.next hC9 (by decide +kernel) (by decide +kernel) s120S s120G ((s120G 101 (by decide +kernel) (by decide +kernel)).trans hg9) er93
  obtain ⟨gg10, hg10, -⟩ := id hC10.2.1
  refine sw_dup (pc' := 145) rfl dX3_init_144 rfl ?_
  refine sw_bipush (pc' := 147) (v := 10) rfl dX3_init_145 (by decide +kernel) ?_
  refine sw_new (ci := 2) (pc' := 150) rfl dX3_init_147 (by decide +kernel) w_71 w_73 w_40 (by omega) (Nat.le_trans (Nat.le_of_ble_eq_true rfl) (show 5 ≤ _ by omega)) ?_
  refine sw_nm (fun g12 eg12 => ?_)
  have zg12 := (congrFun eg12 122).trans (up_s (h := r93) (i := 122))
  refine sw_dup (pc' := 151) rfl dX3_init_150 rfl ?_
  refine sw_gets (pc' := 154) rfl dX3_init_151 (v := .ref 1) (by decide +kernel) w_74 ?_
  refine sw_I (M' := MX1_init) (d' := d - 1) (bc' := 1) (bs' := 12) (as := [_]) dX3_init_154 w_76 ok_X1_init (m_initShelf (b := 122) zg12 (by show 100 ≤ _; omega) (Nat.le_refl _) (Nat.le_refl _)) (by omega) (Nat.le_of_ble_eq_true rfl) (by omega) (by omega) (fun E h' n' _ z => shp_x z) (shp_k (fun s122 s122S s122F => ?_))
  have s122G : ∀ j, j ≠ 122 → j ≠ 122 + 1 → s122 j = r93 j := fun i h1 h2 => (s122F i h1 h2).trans ((congrFun eg12 i).trans ((up_n h1).trans (rfl)))
  refine sw_aast (j := 10) (pc' := 158) rfl dX3_init_157 ((s122G 101 (by decide +kernel) (by decide +kernel)).trans hg10) (Or.inl ⟨rfl, rfl⟩) (by show 100 ≤ _; omega) rfl (by decide +kernel) (by decide +kernel) s122S.1 (by show 100 ≤ _; omega) ?_
  refine sw_nm (fun r103 er103 => ?_)
  have hC11 : C1 h r103 11 := C1.next hC10 (by decide +kernel) (by decide +kernel) s122S s122G ((s122G 101 (by decide +kernel) (by decide +kernel)).trans hg10) er103
  obtain ⟨gg11, hg11, -⟩ := id hC11.2.1
  have hC11e := hC11.2.1
  obtain ⟨gg11b, hg11b, hC11e⟩ := hC11e
  have eg11 : gg11b = gg11 := by rw [hg11] at hg11b; cases hg11b; rfl
  subst eg11
  refine sw_putfF (ci := 4) (k := 0) (pc' := 161) rfl dX3_init_158 (by decide +kernel) (by decide +kernel) w_150 rfl rfl rfl hC11.1 (Nat.le_refl _) (Nat.le_of_ble_eq_true rfl) rfl rfl ?_
  refine sw_nm (fun g13 eg13 => ?_)
  have zg13 := (congrFun eg13 100).trans (up_s (h := r103) (i := 100))
  refine sw_aload_n (pc' := 162) rfl dX3_init_161 rfl ?_
  refine sw_bipush (pc' := 164) (v := 6) rfl dX3_init_162 (by decide +kernel) ?_
  refine sw_newq (t := 4) (len := 6) (pc' := 167) rfl dX3_init_164 (Or.inr rfl) (fun C e => by cases e; exact w_110) rfl (by decide +kernel) (by omega) (by omega) ?_
  refine sw_nm (fun g14 eg14 => ?_)
  have zg14 := (congrFun eg14 124).trans (up_s (h := g13) (i := 124))
  refine sw_putfF (ci := 4) (k := 1) (pc' := 170) rfl dX3_init_167 (by decide +kernel) (by decide +kernel) w_151 rfl rfl rfl (((congrFun eg14 100).trans (up_n (by omega))).trans zg13) (Nat.le_refl _) (Nat.le_of_ble_eq_true rfl) rfl rfl ?_
  refine sw_nm (fun g15 eg15 => ?_)
  have zg15 := (congrFun eg15 100).trans (up_s (h := g14) (i := 100))
  have hD0 : C2 h g15 0 := ⟨zg15, ⟨gg11b, (((congrFun eg15 101).trans (up_n (by omega))).trans (((congrFun eg14 101).trans (up_n (by omega))).trans (((congrFun eg13 101).trans (up_n (by omega))).trans hg11))), hC11e⟩, fun k hk => ⟨(show g15 (102 + 2 * k) = r103 (102 + 2 * k) from (congrFun eg15 (102 + 2 * k)).trans ((up_n (by omega)).trans ((congrFun eg14 (102 + 2 * k)).trans ((up_n (by omega)).trans ((congrFun eg13 (102 + 2 * k)).trans ((up_n (by omega)).trans (rfl))))))).trans (hC11.2.2.1 k hk).1, (show g15 (102 + 2 * k + 1) = r103 (102 + 2 * k + 1) from (congrFun eg15 (102 + 2 * k + 1)).trans ((up_n (by omega)).trans ((congrFun eg14 (102 + 2 * k + 1)).trans ((up_n (by omega)).trans ((congrFun eg13 (102 + 2 * k + 1)).trans ((up_n (by omega)).trans (rfl))))))).trans (hC11.2.2.1 k hk).2.1, (hC11.2.2.1 k hk).2.2⟩, ⟨_, (((congrFun eg15 124).trans (up_n (by omega))).trans zg14), fun k hk => absurd hk (Nat.not_lt_zero _)⟩, fun k hk => absurd hk (Nat.not_lt_zero _), fun i hi => (show g15 i = r103 i from (congrFun eg15 i).trans ((up_n (by omega)).trans ((congrFun eg14 i).trans ((up_n (by omega)).trans ((congrFun eg13 i).trans ((up_n (by omega)).trans (rfl))))))).trans (hC11.2.2.2 i hi)⟩
  obtain ⟨gw0, hgw0, -⟩ := id hD0.2.2.2.1
  obtain ⟨gs0, hgs0, egs0⟩ := id hD0.2.1
  refine sw_iconst (pc' := 171) (v := 0) rfl dX3_init_170 (by decide +kernel) ?_
  refine sw_istore_n (pc' := 172) (lv' := [(1, _), (0, _)]) rfl dX3_init_171 (by decide +kernel) rfl ?_
  refine sw_iload_n (pc' := 173) rfl dX3_init_172 rfl ?_
  refine sw_bipush (pc' := 175) (v := 6) rfl dX3_init_173 (by decide +kernel) ?_
  refine sw_icmp_ge (pc' := 178) (tgt := 203) rfl dX3_init_175 (by decide +kernel) (fun c175 => ?_) (fun c175 => ?_)
  · exact absurd c175 (by decide +kernel)
  · refine sw_aload_n (pc' := 179) rfl dX3_init_178 rfl ?_
    refine sw_getf (ci := 4) (k := 1) (pc' := 182) rfl dX3_init_179 (by decide +kernel) w_151 hD0.1 rfl ?_
    refine sw_iload_n (pc' := 183) rfl dX3_init_182 rfl ?_
    refine sw_new (ci := 3) (pc' := 186) rfl dX3_init_183 (by decide +kernel) w_110 w_112 w_43 (by omega) (Nat.le_trans (Nat.le_of_ble_eq_true rfl) (show 9 ≤ _ by omega)) ?_
    refine sw_nm (fun g16 eg16 => ?_)
    have zg16 := (congrFun eg16 125).trans (up_s (h := g15) (i := 125))
    refine sw_dup (pc' := 187) rfl dX3_init_186 rfl ?_
    refine sw_aload_n (pc' := 188) rfl dX3_init_187 rfl ?_
    refine sw_getf (ci := 4) (k := 0) (pc' := 191) rfl dX3_init_188 (by decide +kernel) w_150 (((congrFun eg16 100).trans (up_n (by omega))).trans hD0.1) rfl ?_
    refine sw_iconst (pc' := 192) (v := 0) rfl dX3_init_191 (by decide +kernel) ?_
    refine sw_aald (j := 0) (pc' := 193) rfl dX3_init_192 (((congrFun eg16 101).trans (up_n (by omega))).trans hgs0) (by decide +kernel) (by show 100 ≤ _; omega) rfl (by omega) (by decide +kernel) (egs0 0 (by decide +kernel)) ?_
    refine sw_I (M' := MX2_init) (d' := d - 1) (bc' := 0) (bs' := 0) (as := [_]) dX3_init_193 w_113 ok_X2_init (m_initWalk zg16 (by show 100 ≤ _; omega)) (by omega) (Nat.le_of_ble_eq_true rfl) (Nat.zero_le _) (Nat.zero_le _) (fun E h' n' _ z => wkp_x z) (wkp_k (fun s125 s125W s125F => ?_))
    have s125G : ∀ j, j ≠ 125 → s125 j = g15 j := fun i h1 => (s125F i h1).trans ((congrFun eg16 i).trans ((up_n h1).trans (rfl)))
    refine sw_aast (j := 0) (pc' := 197) rfl dX3_init_196 ((s125G 124 (by decide +kernel)).trans hgw0) (Or.inr ⟨rfl, rfl⟩) (by show 100 ≤ _; omega) rfl (by decide +kernel) (by decide +kernel) s125W.1 (by show 100 ≤ _; omega) ?_
    refine sw_nm (fun r04 er04 => ?_)
    have hD1 : C2 h r04 1 := C2.next hD0 (by decide +kernel) (by decide +kernel) s125W s125G ((s125G 124 (by decide +kernel)).trans hgw0) er04
    obtain ⟨gw1, hgw1, -⟩ := id hD1.2.2.2.1
    obtain ⟨gs1, hgs1, egs1⟩ := id hD1.2.1
    refine sw_iinc (pc' := 200) (lv' := [(1, _), (0, _)]) (v := 1) rfl dX3_init_197 rfl rfl (by decide +kernel) rfl ?_
    refine sw_goto (tgt := 172) dX3_init_200 (by decide +kernel) ?_
    refine sw_iload_n (pc' := 173) rfl dX3_init_172 rfl ?_
    refine sw_bipush (pc' := 175) (v := 6) rfl dX3_init_173 (by decide +kernel) ?_
    refine sw_icmp_ge (pc' := 178) (tgt := 203) rfl dX3_init_175 (by decide +kernel) (fun c175 => ?_) (fun c175 => ?_)
    · exact absurd c175 (by decide +kernel)
    · refine sw_aload_n (pc' := 179) rfl dX3_init_178 rfl ?_
      refine sw_getf (ci := 4) (k := 1) (pc' := 182) rfl dX3_init_179 (by decide +kernel) w_151 hD1.1 rfl ?_
      refine sw_iload_n (pc' := 183) rfl dX3_init_182 rfl ?_
      refine sw_new (ci := 3) (pc' := 186) rfl dX3_init_183 (by decide +kernel) w_110 w_112 w_43 (by omega) (Nat.le_trans (Nat.le_of_ble_eq_true rfl) (show 9 ≤ _ by omega)) ?_
      refine sw_nm (fun g17 eg17 => ?_)
      have zg17 := (congrFun eg17 126).trans (up_s (h := r04) (i := 126))
      refine sw_dup (pc' := 187) rfl dX3_init_186 rfl ?_
      refine sw_aload_n (pc' := 188) rfl dX3_init_187 rfl ?_
      refine sw_getf (ci := 4) (k := 0) (pc' := 191) rfl dX3_init_188 (by decide +kernel) w_150 (((congrFun eg17 100).trans (up_n (by omega))).trans hD1.1) rfl ?_
      refine sw_iconst (pc' := 192) (v := 0) rfl dX3_init_191 (by decide +kernel) ?_
      refine sw_aald (j := 0) (pc' := 193) rfl dX3_init_192 (((congrFun eg17 101).trans (up_n (by omega))).trans hgs1) (by decide +kernel) (by show 100 ≤ _; omega) rfl (by omega) (by decide +kernel) (egs1 0 (by decide +kernel)) ?_
      refine sw_I (M' := MX2_init) (d' := d - 1) (bc' := 0) (bs' := 0) (as := [_]) dX3_init_193 w_113 ok_X2_init (m_initWalk zg17 (by show 100 ≤ _; omega)) (by omega) (Nat.le_of_ble_eq_true rfl) (Nat.zero_le _) (Nat.zero_le _) (fun E h' n' _ z => wkp_x z) (wkp_k (fun s126 s126W s126F => ?_))
      have s126G : ∀ j, j ≠ 126 → s126 j = r04 j := fun i h1 => (s126F i h1).trans ((congrFun eg17 i).trans ((up_n h1).trans (rfl)))
      refine sw_aast (j := 1) (pc' := 197) rfl dX3_init_196 ((s126G 124 (by decide +kernel)).trans hgw1) (Or.inr ⟨rfl, rfl⟩) (by show 100 ≤ _; omega) rfl (by decide +kernel) (by decide +kernel) s126W.1 (by show 100 ≤ _; omega) ?_
      refine sw_nm (fun r14 er14 => ?_)
      have hD2 : C2 h r14 2 := C2.next hD1 (by decide +kernel) (by decide +kernel) s126W s126G ((s126G 124 (by decide +kernel)).trans hgw1) er14
      obtain ⟨gw2, hgw2, -⟩ := id hD2.2.2.2.1
      obtain ⟨gs2, hgs2, egs2⟩ := id hD2.2.1
      refine sw_iinc (pc' := 200) (lv' := [(1, _), (0, _)]) (v := 2) rfl dX3_init_197 rfl rfl (by decide +kernel) rfl ?_
      refine sw_goto (tgt := 172) dX3_init_200 (by decide +kernel) ?_
      refine sw_iload_n (pc' := 173) rfl dX3_init_172 rfl ?_
      refine sw_bipush (pc' := 175) (v := 6) rfl dX3_init_173 (by decide +kernel) ?_
      refine sw_icmp_ge (pc' := 178) (tgt := 203) rfl dX3_init_175 (by decide +kernel) (fun c175 => ?_) (fun c175 => ?_)
      · exact absurd c175 (by decide +kernel)
      · refine sw_aload_n (pc' := 179) rfl dX3_init_178 rfl ?_
        refine sw_getf (ci := 4) (k := 1) (pc' := 182) rfl dX3_init_179 (by decide +kernel) w_151 hD2.1 rfl ?_
        refine sw_iload_n (pc' := 183) rfl dX3_init_182 rfl ?_
        refine sw_new (ci := 3) (pc' := 186) rfl dX3_init_183 (by decide +kernel) w_110 w_112 w_43 (by omega) (Nat.le_trans (Nat.le_of_ble_eq_true rfl) (show 9 ≤ _ by omega)) ?_
        refine sw_nm (fun g18 eg18 => ?_)
        have zg18 := (congrFun eg18 127).trans (up_s (h := r14) (i := 127))
        refine sw_dup (pc' := 187) rfl dX3_init_186 rfl ?_
        refine sw_aload_n (pc' := 188) rfl dX3_init_187 rfl ?_
        refine sw_getf (ci := 4) (k := 0) (pc' := 191) rfl dX3_init_188 (by decide +kernel) w_150 (((congrFun eg18 100).trans (up_n (by omega))).trans hD2.1) rfl ?_
        refine sw_iconst (pc' := 192) (v := 0) rfl dX3_init_191 (by decide +kernel) ?_
        refine sw_aald (j := 0) (pc' := 193) rfl dX3_init_192 (((congrFun eg18 101).trans (up_n (by omega))).trans hgs2) (by decide +kernel) (by show 100 ≤ _; omega) rfl (by omega) (by decide +kernel) (egs2 0 (by decide +kernel)) ?_
        refine sw_I (M' := MX2_init) (d' := d - 1) (bc' := 0) (bs' := 0) (as := [_]) dX3_init_193 w_113 ok_X2_init (m_initWalk zg18 (by show 100 ≤ _; omega)) (by omega) (Nat.le_of_ble_eq_true rfl) (Nat.zero_le _) (Nat.zero_le _) (fun E h' n' _ z => wkp_x z) (wkp_k (fun s127 s127W s127F => ?_))
        have s127G : ∀ j, j ≠ 127 → s127 j = r14 j := fun i h1 => (s127F i h1).trans ((congrFun eg18 i).trans ((up_n h1).trans (rfl)))
        refine sw_aast (j := 2) (pc' := 197) rfl dX3_init_196 ((s127G 124 (by decide +kernel)).trans hgw2) (Or.inr ⟨rfl, rfl⟩) (by show 100 ≤ _; omega) rfl (by decide +kernel) (by decide +kernel) s127W.1 (by show 100 ≤ _; omega) ?_
        refine sw_nm (fun r24 er24 => ?_)
        have hD3 : C2 h r24 3 := C2.next hD2 (by decide +kernel) (by decide +kernel) s127W s127G ((s127G 124 (by decide +kernel)).trans hgw2) er24
        obtain ⟨gw3, hgw3, -⟩ := id hD3.2.2.2.1
        obtain ⟨gs3, hgs3, egs3⟩ := id hD3.2.1
        refine sw_iinc (pc' := 200) (lv' := [(1, _), (0, _)]) (v := 3) rfl dX3_init_197 rfl rfl (by decide +kernel) rfl ?_
        refine sw_goto (tgt := 172) dX3_init_200 (by decide +kernel) ?_
        refine sw_iload_n (pc' := 173) rfl dX3_init_172 rfl ?_
        refine sw_bipush (pc' := 175) (v := 6) rfl dX3_init_173 (by decide +kernel) ?_
        refine sw_icmp_ge (pc' := 178) (tgt := 203) rfl dX3_init_175 (by decide +kernel) (fun c175 => ?_) (fun c175 => ?_)
        · exact absurd c175 (by decide +kernel)
        · refine sw_aload_n (pc' := 179) rfl dX3_init_178 rfl ?_
          refine sw_getf (ci := 4) (k := 1) (pc' := 182) rfl dX3_init_179 (by decide +kernel) w_151 hD3.1 rfl ?_
          refine sw_iload_n (pc' := 183) rfl dX3_init_182 rfl ?_
          refine sw_new (ci := 3) (pc' := 186) rfl dX3_init_183 (by decide +kernel) w_110 w_112 w_43 (by omega) (Nat.le_trans (Nat.le_of_ble_eq_true rfl) (show 9 ≤ _ by omega)) ?_
          refine sw_nm (fun g19 eg19 => ?_)
          have zg19 := (congrFun eg19 128).trans (up_s (h := r24) (i := 128))
          refine sw_dup (pc' := 187) rfl dX3_init_186 rfl ?_
          refine sw_aload_n (pc' := 188) rfl dX3_init_187 rfl ?_
          refine sw_getf (ci := 4) (k := 0) (pc' := 191) rfl dX3_init_188 (by decide +kernel) w_150 (((congrFun eg19 100).trans (up_n (by omega))).trans hD3.1) rfl ?_
          refine sw_iconst (pc' := 192) (v := 0) rfl dX3_init_191 (by decide +kernel) ?_
          refine sw_aald (j := 0) (pc' := 193) rfl dX3_init_192 (((congrFun eg19 101).trans (up_n (by omega))).trans hgs3) (by decide +kernel) (by show 100 ≤ _; omega) rfl (by omega) (by decide +kernel) (egs3 0 (by decide +kernel)) ?_
          refine sw_I (M' := MX2_init) (d' := d - 1) (bc' := 0) (bs' := 0) (as := [_]) dX3_init_193 w_113 ok_X2_init (m_initWalk zg19 (by show 100 ≤ _; omega)) (by omega) (Nat.le_of_ble_eq_true rfl) (Nat.zero_le _) (Nat.zero_le _) (fun E h' n' _ z => wkp_x z) (wkp_k (fun s128 s128W s128F => ?_))
          have s128G : ∀ j, j ≠ 128 → s128 j = r24 j := fun i h1 => (s128F i h1).trans ((congrFun eg19 i).trans ((up_n h1).trans (rfl)))
          refine sw_aast (j := 3) (pc' := 197) rfl dX3_init_196 ((s128G 124 (by decide +kernel)).trans hgw3) (Or.inr ⟨rfl, rfl⟩) (by show 100 ≤ _; omega) rfl (by decide +kernel) (by decide +kernel) s128W.1 (by show 100 ≤ _; omega) ?_
          refine sw_nm (fun r34 er34 => ?_)
          have hD4 : C2 h r34 4 := C2.next hD3 (by decide +kernel) (by decide +kernel) s128W s128G ((s128G 124 (by decide +kernel)).trans hgw3) er34
          obtain ⟨gw4, hgw4, -⟩ := id hD4.2.2.2.1
          obtain ⟨gs4, hgs4, egs4⟩ := id hD4.2.1
          refine sw_iinc (pc' := 200) (lv' := [(1, _), (0, _)]) (v := 4) rfl dX3_init_197 rfl rfl (by decide +kernel) rfl ?_
          refine sw_goto (tgt := 172) dX3_init_200 (by decide +kernel) ?_
          refine sw_iload_n (pc' := 173) rfl dX3_init_172 rfl ?_
          refine sw_bipush (pc' := 175) (v := 6) rfl dX3_init_173 (by decide +kernel) ?_
          refine sw_icmp_ge (pc' := 178) (tgt := 203) rfl dX3_init_175 (by decide +kernel) (fun c175 => ?_) (fun c175 => ?_)
          · exact absurd c175 (by decide +kernel)
          · refine sw_aload_n (pc' := 179) rfl dX3_init_178 rfl ?_
            refine sw_getf (ci := 4) (k := 1) (pc' := 182) rfl dX3_init_179 (by decide +kernel) w_151 hD4.1 rfl ?_
            refine sw_iload_n (pc' := 183) rfl dX3_init_182 rfl ?_
            refine sw_new (ci := 3) (pc' := 186) rfl dX3_init_183 (by decide +kernel) w_110 w_112 w_43 (by omega) (Nat.le_trans (Nat.le_of_ble_eq_true rfl) (show 9 ≤ _ by omega)) ?_
            refine sw_nm (fun g20 eg20 => ?_)
            have zg20 := (congrFun eg20 129).trans (up_s (h := r34) (i := 129))
            refine sw_dup (pc' := 187) rfl dX3_init_186 rfl ?_
            refine sw_aload_n (pc' := 188) rfl dX3_init_187 rfl ?_
            refine sw_getf (ci := 4) (k := 0) (pc' := 191) rfl dX3_init_188 (by decide +kernel) w_150 (((congrFun eg20 100).trans (up_n (by omega))).trans hD4.1) rfl ?_
            refine sw_iconst (pc' := 192) (v := 0) rfl dX3_init_191 (by decide +kernel) ?_
            refine sw_aald (j := 0) (pc' := 193) rfl dX3_init_192 (((congrFun eg20 101).trans (up_n (by omega))).trans hgs4) (by decide +kernel) (by show 100 ≤ _; omega) rfl (by omega) (by decide +kernel) (egs4 0 (by decide +kernel)) ?_
            refine sw_I (M' := MX2_init) (d' := d - 1) (bc' := 0) (bs' := 0) (as := [_]) dX3_init_193 w_113 ok_X2_init (m_initWalk zg20 (by show 100 ≤ _; omega)) (by omega) (Nat.le_of_ble_eq_true rfl) (Nat.zero_le _) (Nat.zero_le _) (fun E h' n' _ z => wkp_x z) (wkp_k (fun s129 s129W s129F => ?_))
            have s129G : ∀ j, j ≠ 129 → s129 j = r34 j := fun i h1 => (s129F i h1).trans ((congrFun eg20 i).trans ((up_n h1).trans (rfl)))
            refine sw_aast (j := 4) (pc' := 197) rfl dX3_init_196 ((s129G 124 (by decide +kernel)).trans hgw4) (Or.inr ⟨rfl, rfl⟩) (by show 100 ≤ _; omega) rfl (by decide +kernel) (by decide +kernel) s129W.1 (by show 100 ≤ _; omega) ?_
            refine sw_nm (fun r44 er44 => ?_)
            have hD5 : C2 h r44 5 := C2.next hD4 (by decide +kernel) (by decide +kernel) s129W s129G ((s129G 124 (by decide +kernel)).trans hgw4) er44
            obtain ⟨gw5, hgw5, -⟩ := id hD5.2.2.2.1
            obtain ⟨gs5, hgs5, egs5⟩ := id hD5.2.1
            refine sw_iinc (pc' := 200) (lv' := [(1, _), (0, _)]) (v := 5) rfl dX3_init_197 rfl rfl (by decide +kernel) rfl ?_
            refine sw_goto (tgt := 172) dX3_init_200 (by decide +kernel) ?_
            refine sw_iload_n (pc' := 173) rfl dX3_init_172 rfl ?_
            refine sw_bipush (pc' := 175) (v := 6) rfl dX3_init_173 (by decide +kernel) ?_
            refine sw_icmp_ge (pc' := 178) (tgt := 203) rfl dX3_init_175 (by decide +kernel) (fun c175 => ?_) (fun c175 => ?_)
            · exact absurd c175 (by decide +kernel)
            · refine sw_aload_n (pc' := 179) rfl dX3_init_178 rfl ?_
              refine sw_getf (ci := 4) (k := 1) (pc' := 182) rfl dX3_init_179 (by decide +kernel) w_151 hD5.1 rfl ?_
              refine sw_iload_n (pc' := 183) rfl dX3_init_182 rfl ?_
              refine sw_new (ci := 3) (pc' := 186) rfl dX3_init_183 (by decide +kernel) w_110 w_112 w_43 (by omega) (Nat.le_trans (Nat.le_of_ble_eq_true rfl) (show 9 ≤ _ by omega)) ?_
              refine sw_nm (fun g21 eg21 => ?_)
              have zg21 := (congrFun eg21 130).trans (up_s (h := r44) (i := 130))
              refine sw_dup (pc' := 187) rfl dX3_init_186 rfl ?_
              refine sw_aload_n (pc' := 188) rfl dX3_init_187 rfl ?_
              refine sw_getf (ci := 4) (k := 0) (pc' := 191) rfl dX3_init_188 (by decide +kernel) w_150 (((congrFun eg21 100).trans (up_n (by omega))).trans hD5.1) rfl ?_
              refine sw_iconst (pc' := 192) (v := 0) rfl dX3_init_191 (by decide +kernel) ?_
              refine sw_aald (j := 0) (pc' := 193) rfl dX3_init_192 (((congrFun eg21 101).trans (up_n (by omega))).trans hgs5) (by decide +kernel) (by show 100 ≤ _; omega) rfl (by omega) (by decide +kernel) (egs5 0 (by decide +kernel)) ?_
              refine sw_I (M' := MX2_init) (d' := d - 1) (bc' := 0) (bs' := 0) (as := [_]) dX3_init_193 w_113 ok_X2_init (m_initWalk zg21 (by show 100 ≤ _; omega)) (by omega) (Nat.le_of_ble_eq_true rfl) (Nat.zero_le _) (Nat.zero_le _) (fun E h' n' _ z => wkp_x z) (wkp_k (fun s130 s130W s130F => ?_))
              have s130G : ∀ j, j ≠ 130 → s130 j = r44 j := fun i h1 => (s130F i h1).trans ((congrFun eg21 i).trans ((up_n h1).trans (rfl)))
              refine sw_aast (j := 5) (pc' := 197) rfl dX3_init_196 ((s130G 124 (by decide +kernel)).trans hgw5) (Or.inr ⟨rfl, rfl⟩) (by show 100 ≤ _; omega) rfl (by decide +kernel) (by decide +kernel) s130W.1 (by show 100 ≤ _; omega) ?_
              refine sw_nm (fun r54 er54 => ?_)
              have hD6 : C2 h r54 6 := C2.next hD5 (by decide +kernel) (by decide +kernel) s130W s130G ((s130G 124 (by decide +kernel)).trans hgw5) er54
              obtain ⟨gw6, hgw6, -⟩ := id hD6.2.2.2.1
              obtain ⟨gs6, hgs6, egs6⟩ := id hD6.2.1
              refine sw_iinc (pc' := 200) (lv' := [(1, _), (0, _)]) (v := 6) rfl dX3_init_197 rfl rfl (by decide +kernel) rfl ?_
              refine sw_goto (tgt := 172) dX3_init_200 (by decide +kernel) ?_
              refine sw_iload_n (pc' := 173) rfl dX3_init_172 rfl ?_
              refine sw_bipush (pc' := 175) (v := 6) rfl dX3_init_173 (by decide +kernel) ?_
              refine sw_icmp_ge (pc' := 178) (tgt := 203) rfl dX3_init_175 (by decide +kernel) (fun c175 => ?_) (fun c175 => ?_)
              · obtain ⟨gw6b, hgw6b, hgw6e⟩ := id hD6.2.2.2.1
                have egw6 : gw6b = gw6 := by rw [hgw6] at hgw6b; cases hgw6b; rfl
                subst egw6
                refine sw_aload_n (pc' := 204) rfl dX3_init_203 rfl ?_
                refine sw_new (ci := 3) (pc' := 207) rfl dX3_init_204 (by decide +kernel) w_110 w_112 w_43 (by omega) (Nat.le_trans (Nat.le_of_ble_eq_true rfl) (show 9 ≤ _ by omega)) ?_
                refine sw_nm (fun g22 eg22 => ?_)
                have zg22 := (congrFun eg22 131).trans (up_s (h := r54) (i := 131))
                refine sw_dup (pc' := 208) rfl dX3_init_207 rfl ?_
                refine sw_aload_n (pc' := 209) rfl dX3_init_208 rfl ?_
                refine sw_getf (ci := 4) (k := 0) (pc' := 212) rfl dX3_init_209 (by decide +kernel) w_150 (((congrFun eg22 100).trans (up_n (by omega))).trans hD6.1) rfl ?_
                refine sw_iconst (pc' := 213) (v := 0) rfl dX3_init_212 (by decide +kernel) ?_
                refine sw_aald (j := 0) (pc' := 214) rfl dX3_init_213 (((congrFun eg22 101).trans (up_n (by omega))).trans hgs6) (by decide +kernel) (by show 100 ≤ _; omega) rfl (by omega) (by decide +kernel) (egs6 0 (by decide +kernel)) ?_
                refine sw_I (M' := MX2_init) (d' := d - 1) (bc' := 0) (bs' := 0) (as := [_]) dX3_init_214 w_113 ok_X2_init (m_initWalk zg22 (by show 100 ≤ _; omega)) (by omega) (Nat.le_of_ble_eq_true rfl) (Nat.zero_le _) (Nat.zero_le _) (fun E h' n' _ z => wkp_x z) (wkp_k (fun s131 s131W s131F => ?_))
                have s131G : ∀ j, j ≠ 131 → j ≠ 100 → s131 j = r54 j := fun i h1 h2 => (s131F i h1).trans ((congrFun eg22 i).trans ((up_n (by omega)).trans (rfl)))
                refine sw_putfF (ci := 4) (k := 2) (pc' := 220) rfl dX3_init_217 (by decide +kernel) (by decide +kernel) w_152 rfl rfl rfl ((s131F 100 (by decide +kernel)).trans (((congrFun eg22 100).trans (up_n (by omega))).trans hD6.1)) (Nat.le_refl _) (Nat.le_of_ble_eq_true rfl) rfl rfl ?_
                refine sw_nm (fun g23 eg23 => ?_)
                have zg23 := (congrFun eg23 100).trans (up_s (h := s131) (i := 100))
                refine sw_aload_n (pc' := 221) rfl dX3_init_220 rfl ?_
                refine sw_new (ci := 3) (pc' := 224) rfl dX3_init_221 (by decide +kernel) w_110 w_112 w_43 (by omega) (Nat.le_trans (Nat.le_of_ble_eq_true rfl) (show 9 ≤ _ by omega)) ?_
                refine sw_nm (fun g24 eg24 => ?_)
                have zg24 := (congrFun eg24 132).trans (up_s (h := g23) (i := 132))
                refine sw_dup (pc' := 225) rfl dX3_init_224 rfl ?_
                refine sw_aload_n (pc' := 226) rfl dX3_init_225 rfl ?_
                refine sw_getf (ci := 4) (k := 0) (pc' := 229) rfl dX3_init_226 (by decide +kernel) w_150 (((congrFun eg24 100).trans (up_n (by omega))).trans zg23) rfl ?_
                refine sw_iconst (pc' := 230) (v := 0) rfl dX3_init_229 (by decide +kernel) ?_
                refine sw_aald (j := 0) (pc' := 231) rfl dX3_init_230 (((congrFun eg24 101).trans (up_n (by omega))).trans (((congrFun eg23 101).trans (up_n (by omega))).trans ((s131G 101 (by decide +kernel) (by decide +kernel)).trans hgs6))) (by decide +kernel) (by show 100 ≤ _; omega) rfl (by omega) (by decide +kernel) (egs6 0 (by decide +kernel)) ?_
                refine sw_I (M' := MX2_init) (d' := d - 1) (bc' := 0) (bs' := 0) (as := [_]) dX3_init_231 w_113 ok_X2_init (m_initWalk zg24 (by show 100 ≤ _; omega)) (by omega) (Nat.le_of_ble_eq_true rfl) (Nat.zero_le _) (Nat.zero_le _) (fun E h' n' _ z => wkp_x z) (wkp_k (fun s132 s132W s132F => ?_))
                have s132G : ∀ j, j ≠ 132 → j ≠ 100 → s132 j = s131 j := fun i h1 h2 => (s132F i h1).trans ((congrFun eg24 i).trans ((up_n (by omega)).trans ((congrFun eg23 i).trans ((up_n (by omega)).trans (rfl)))))
                refine sw_putfF (ci := 4) (k := 3) (pc' := 237) rfl dX3_init_234 (by decide +kernel) (by decide +kernel) w_153 rfl rfl rfl ((s132F 100 (by decide +kernel)).trans (((congrFun eg24 100).trans (up_n (by omega))).trans zg23)) (Nat.le_refl _) (Nat.le_of_ble_eq_true rfl) rfl rfl ?_
                refine sw_nm (fun g25 eg25 => ?_)
                have zg25 := (congrFun eg25 100).trans (up_s (h := s132) (i := 100))
                refine sw_aload_n (pc' := 238) rfl dX3_init_237 rfl ?_
                refine sw_new (ci := 2) (pc' := 241) rfl dX3_init_238 (by decide +kernel) w_71 w_73 w_40 (by omega) (Nat.le_trans (Nat.le_of_ble_eq_true rfl) (show 5 ≤ _ by omega)) ?_
                refine sw_nm (fun g26 eg26 => ?_)
                have zg26 := (congrFun eg26 133).trans (up_s (h := g25) (i := 133))
                refine sw_dup (pc' := 242) rfl dX3_init_241 rfl ?_
                refine sw_gets (pc' := 245) rfl dX3_init_242 (v := .ref 1) (by decide +kernel) w_74 ?_
                refine sw_I (M' := MX1_init) (d' := d - 1) (bc' := 1) (bs' := 12) (as := [_]) dX3_init_245 w_76 ok_X1_init (m_initShelf (b := 133) zg26 (by show 100 ≤ _; omega) (Nat.le_refl _) (Nat.le_refl _)) (by omega) (Nat.le_of_ble_eq_true rfl) (by omega) (by omega) (fun E h' n' _ z => shp_x z) (shp_k (fun s133 s133S s133F => ?_))
                have b133 : ∀ i, i ≠ 100 → i ≠ 133 → g26 i = s132 i := fun i h1 h2 => (congrFun eg26 i).trans ((up_n (by assumption)).trans ((congrFun eg25 i).trans ((up_n (by assumption)).trans (rfl))))
                refine sw_putfF (ci := 4) (k := 4) (pc' := 251) rfl dX3_init_248 (by decide +kernel) (by decide +kernel) w_154 rfl rfl rfl ((s133F 100 (by decide +kernel) (by decide +kernel)).trans (((congrFun eg26 100).trans (up_n (by omega))).trans zg25)) (Nat.le_refl _) (Nat.le_of_ble_eq_true rfl) rfl rfl ?_
                refine sw_nm (fun g27 eg27 => ?_)
                have zg27 := (congrFun eg27 100).trans (up_s (h := s133) (i := 100))
                refine sw_ret (v := none) ⟨dX3_init_251, rfl⟩ ?_
                have G9 : ∀ i, i < 131 → i ≠ 100 → g27 i = r54 i := fun i q1 q2 => ((congrFun eg27 i).trans ((up_n (by omega)).trans (rfl))).trans (((s133F i (by omega) (by omega)).trans (b133 i (by omega) (by omega))).trans (((s132G i (by omega) (by omega))).trans (s131G i (by omega) (by omega))))
                have W1 : g27 131 = s131 131 := ((congrFun eg27 131).trans ((up_n (by omega)).trans (rfl))).trans (((s133F 131 (by decide +kernel) (by decide +kernel)).trans (b133 131 (by decide +kernel) (by decide +kernel))).trans (s132G 131 (by decide +kernel) (by decide +kernel)))
                have W2 : g27 132 = s132 132 := ((congrFun eg27 132).trans ((up_n (by omega)).trans (rfl))).trans ((s133F 132 (by decide +kernel) (by decide +kernel)).trans (b133 132 (by decide +kernel) (by decide +kernel)))
                exact ⟨rfl, rfl, ⟨zg27, ⟨_, (G9 101 (by decide +kernel) (by decide +kernel)).trans hgs6, egs6⟩, ⟨_, (G9 124 (by decide +kernel) (by decide +kernel)).trans hgw6, hgw6e⟩, fun k hk => ⟨(G9 _ (by omega) (by omega)).trans (hD6.2.2.1 k hk).1, (G9 _ (by omega) (by omega)).trans (hD6.2.2.1 k hk).2.1, (hD6.2.2.1 k hk).2.2⟩, fun k hk => ⟨(show (0 : Nat) < 11 by decide +kernel), (G9 _ (by omega) (by omega)).trans (hD6.2.2.2.2.1 k hk).1, (hD6.2.2.2.2.1 k hk).2⟩, ⟨_, _, _, _, _, _, _, _, _, W1.trans s131W.1, s131W.2⟩, ⟨_, _, _, _, _, _, _, _, _, W2.trans s132W.1, s132W.2⟩, ⟨_, _, _, _, ((congrFun eg27 133).trans ((up_n (by omega)).trans (rfl))).trans s133S.1, ((congrFun eg27 134).trans ((up_n (by omega)).trans (rfl))).trans s133S.2.1, s133S.2.2⟩, fun k q1 q2 => ⟨(hK k q1 q2).1, ((G9 k (by omega) (by omega)).trans (hD6.2.2.2.2.2 k (by omega))).trans (hK k q1 q2).2⟩⟩, fun i hi => (G9 i (by omega) (by omega)).trans (hD6.2.2.2.2.2 i hi)⟩
              · exact absurd c175 (by decide +kernel)
end
section
/-! 55.init -/
/-! the model as it begins -/
def IM (h : AH) : ARes → AH → Nat → Prop := fun r h' n' => r = .inl none ∧ n' = 158 ∧ RMo h' s0 0 ∧ ∀ i, i < 135 → h' i = h i
theorem sh_s0 : up (up (up (up (up (up (fun _ => (0 : Int32)) 0 (-1)) 1 (-1)) 2 (-1)) 3 (-1)) 4 (-1)) 5 (-1) = shF s0 := by
  funext j
  by_cases h : j < 6
  · rw [shF_n h rfl]
    rcases (show j = 0 ∨ j = 1 ∨ j = 2 ∨ j = 3 ∨ j = 4 ∨ j = 5 by omega) with rfl | rfl | rfl | rfl | rfl | rfl <;> rfl
  · rw [up_n (by omega), up_n (by omega), up_n (by omega), up_n (by omega), up_n (by omega), up_n (by omega)]
    unfold shF
    rw [if_neg h]
theorem wa_s0 : (fun _ => (0 : Int32)) = wAh s0 := funext fun _ => (show (0 : Int32) = 0 - 0 by decide +kernel)
theorem cl_s0 (N : Nat) : IV s0 N := by
  refine ⟨⟨fun _ _ => Nat.zero_le _, fun _ _ j hj => absurd hj (Nat.not_lt_zero _), ?_, ?_, ?_, fun _ _ => (show (0 : Nat) < 11 by decide +kernel), ?_⟩, rfl⟩
  · exact srt_0
  · exact srt_0
  · exact eis_0
  · exact ⟨fun _ => 0, fun _ _ => ⟨rfl, Nat.zero_le _⟩, fun k _ e => by cases e⟩
theorem q_initModel {h : AH} {d bc bs : Nat} (h0 : h 135 = .inr (6, dfs 6)) (h1 : 30 ≤ bc) (h2 : 300 ≤ bs) : SM SR0 MX5_init d bc bs [.ref 135] h 136 (IM h) := by
  refine sm_of pn_OverwalksModel rfl (Nat.le_of_ble_eq_true rfl) ?_
  refine sw_aload_n (pc' := 1) rfl dX5_init_0 rfl ?_
  refine sw_objInit (pc' := 4) rfl dX5_init_1 w_1110 w_69 w_70 (Nat.le_of_ble_eq_true rfl) ?_
  refine sw_aload_n (pc' := 5) rfl dX5_init_4 rfl ?_
  refine sw_bipush (pc' := 7) (v := 11) rfl dX5_init_5 (by decide +kernel) ?_
  refine sw_bipush (pc' := 9) (v := 12) rfl dX5_init_7 (by decide +kernel) ?_
  refine sw_mna (N' := 11) (K' := 12) (pc' := 13) rfl dX5_init_9 w_1111 w_101 rfl rfl (by decide +kernel) (by decide +kernel) (by omega) (by omega) (fun p p136 prow pF => ?_)
  refine sw_putfF (ci := 6) (k := 3) (pc' := 16) rfl dX5_init_13 (by decide +kernel) (by decide +kernel) w_1116 rfl rfl rfl ((pF 135 (by decide +kernel)).trans h0) (by show 100 ≤ _; omega) (Nat.le_of_ble_eq_true rfl) rfl rfl ?_
  refine sw_nm (fun g1 eg1 => ?_)
  have zg1 := (congrFun eg1 135).trans (up_s (h := p) (i := 135))
  refine sw_aload_n (pc' := 17) rfl dX5_init_16 rfl ?_
  refine sw_bipush (pc' := 19) (v := 11) rfl dX5_init_17 (by decide +kernel) ?_
  refine sw_newa (t := 0) (len := 11) (pc' := 21) rfl dX5_init_19 (by decide +kernel) w_101 rfl (by decide +kernel) (by omega) (by omega) ?_
  refine sw_nm (fun g2 eg2 => ?_)
  have zg2 := (congrFun eg2 148).trans (up_s (h := g1) (i := 148))
  refine sw_putfF (ci := 6) (k := 4) (pc' := 24) rfl dX5_init_21 (by decide +kernel) (by decide +kernel) w_1117 rfl rfl rfl (((congrFun eg2 135).trans (up_n (by omega))).trans zg1) (by show 100 ≤ _; omega) (Nat.le_of_ble_eq_true rfl) rfl rfl ?_
  refine sw_nm (fun g3 eg3 => ?_)
  have zg3 := (congrFun eg3 135).trans (up_s (h := g2) (i := 135))
  refine sw_aload_n (pc' := 25) rfl dX5_init_24 rfl ?_
  refine sw_bipush (pc' := 27) (v := 11) rfl dX5_init_25 (by decide +kernel) ?_
  refine sw_newa (t := 0) (len := 11) (pc' := 29) rfl dX5_init_27 (by decide +kernel) w_101 rfl (by decide +kernel) (by omega) (by omega) ?_
  refine sw_nm (fun g4 eg4 => ?_)
  have zg4 := (congrFun eg4 149).trans (up_s (h := g3) (i := 149))
  refine sw_putfF (ci := 6) (k := 5) (pc' := 32) rfl dX5_init_29 (by decide +kernel) (by decide +kernel) w_1118 rfl rfl rfl (((congrFun eg4 135).trans (up_n (by omega))).trans zg3) (by show 100 ≤ _; omega) (Nat.le_of_ble_eq_true rfl) rfl rfl ?_
  refine sw_nm (fun g5 eg5 => ?_)
  have zg5 := (congrFun eg5 135).trans (up_s (h := g4) (i := 135))
  refine sw_aload_n (pc' := 33) rfl dX5_init_32 rfl ?_
  refine sw_bipush (pc' := 35) (v := 6) rfl dX5_init_33 (by decide +kernel) ?_
  refine sw_newa (t := 0) (len := 6) (pc' := 37) rfl dX5_init_35 (by decide +kernel) w_101 rfl (by decide +kernel) (by omega) (by omega) ?_
  refine sw_nm (fun g6 eg6 => ?_)
  have zg6 := (congrFun eg6 150).trans (up_s (h := g5) (i := 150))
  refine sw_dup (pc' := 38) rfl dX5_init_37 rfl ?_
  refine sw_iconst (pc' := 39) (v := 0) rfl dX5_init_38 (by decide +kernel) ?_
  refine sw_iconst (pc' := 40) (v := (-1)) rfl dX5_init_39 (by decide +kernel) ?_
  refine sw_iast (j := 0) (pc' := 41) rfl dX5_init_40 zg6 (by show 100 ≤ _; omega) rfl (by omega) (by decide +kernel) ?_
  refine sw_nm (fun g7 eg7 => ?_)
  have zg7 := (congrFun eg7 150).trans (up_s (h := g6) (i := 150))
  refine sw_dup (pc' := 42) rfl dX5_init_41 rfl ?_
  refine sw_iconst (pc' := 43) (v := 1) rfl dX5_init_42 (by decide +kernel) ?_
  refine sw_iconst (pc' := 44) (v := (-1)) rfl dX5_init_43 (by decide +kernel) ?_
  refine sw_iast (j := 1) (pc' := 45) rfl dX5_init_44 zg7 (by show 100 ≤ _; omega) rfl (by omega) (by decide +kernel) ?_
  refine sw_nm (fun g8 eg8 => ?_)
  have zg8 := (congrFun eg8 150).trans (up_s (h := g7) (i := 150))
  refine sw_dup (pc' := 46) rfl dX5_init_45 rfl ?_
  refine sw_iconst (pc' := 47) (v := 2) rfl dX5_init_46 (by decide +kernel) ?_
  refine sw_iconst (pc' := 48) (v := (-1)) rfl dX5_init_47 (by decide +kernel) ?_
  refine sw_iast (j := 2) (pc' := 49) rfl dX5_init_48 zg8 (by show 100 ≤ _; omega) rfl (by omega) (by decide +kernel) ?_
  refine sw_nm (fun g9 eg9 => ?_)
  have zg9 := (congrFun eg9 150).trans (up_s (h := g8) (i := 150))
  refine sw_dup (pc' := 50) rfl dX5_init_49 rfl ?_
  refine sw_iconst (pc' := 51) (v := 3) rfl dX5_init_50 (by decide +kernel) ?_
  refine sw_iconst (pc' := 52) (v := (-1)) rfl dX5_init_51 (by decide +kernel) ?_
  refine sw_iast (j := 3) (pc' := 53) rfl dX5_init_52 zg9 (by show 100 ≤ _; omega) rfl (by omega) (by decide +kernel) ?_
  refine sw_nm (fun g10 eg10 => ?_)
  have zg10 := (congrFun eg10 150).trans (up_s (h := g9) (i := 150))
  refine sw_dup (pc' := 54) rfl dX5_init_53 rfl ?_
  refine sw_iconst (pc' := 55) (v := 4) rfl dX5_init_54 (by decide +kernel) ?_
  refine sw_iconst (pc' := 56) (v := (-1)) rfl dX5_init_55 (by decide +kernel) ?_
  refine sw_iast (j := 4) (pc' := 57) rfl dX5_init_56 zg10 (by show 100 ≤ _; omega) rfl (by omega) (by decide +kernel) ?_
  refine sw_nm (fun g11 eg11 => ?_)
  have zg11 := (congrFun eg11 150).trans (up_s (h := g10) (i := 150))
  refine sw_dup (pc' := 58) rfl dX5_init_57 rfl ?_
  refine sw_iconst (pc' := 59) (v := 5) rfl dX5_init_58 (by decide +kernel) ?_
  refine sw_iconst (pc' := 60) (v := (-1)) rfl dX5_init_59 (by decide +kernel) ?_
  refine sw_iast (j := 5) (pc' := 61) rfl dX5_init_60 zg11 (by show 100 ≤ _; omega) rfl (by omega) (by decide +kernel) ?_
  refine sw_nm (fun g12 eg12 => ?_)
  have zg12 := (congrFun eg12 150).trans (up_s (h := g11) (i := 150))
  refine sw_putfF (ci := 6) (k := 6) (pc' := 64) rfl dX5_init_61 (by decide +kernel) (by decide +kernel) w_1119 rfl rfl rfl (((congrFun eg12 135).trans (up_n (by omega))).trans (((congrFun eg11 135).trans (up_n (by omega))).trans (((congrFun eg10 135).trans (up_n (by omega))).trans (((congrFun eg9 135).trans (up_n (by omega))).trans (((congrFun eg8 135).trans (up_n (by omega))).trans (((congrFun eg7 135).trans (up_n (by omega))).trans (((congrFun eg6 135).trans (up_n (by omega))).trans zg5))))))) (by show 100 ≤ _; omega) (Nat.le_of_ble_eq_true rfl) rfl rfl ?_
  refine sw_nm (fun g13 eg13 => ?_)
  have zg13 := (congrFun eg13 135).trans (up_s (h := g12) (i := 135))
  refine sw_aload_n (pc' := 65) rfl dX5_init_64 rfl ?_
  refine sw_bipush (pc' := 67) (v := 6) rfl dX5_init_65 (by decide +kernel) ?_
  refine sw_newa (t := 0) (len := 6) (pc' := 69) rfl dX5_init_67 (by decide +kernel) w_101 rfl (by decide +kernel) (by omega) (by omega) ?_
  refine sw_nm (fun g14 eg14 => ?_)
  have zg14 := (congrFun eg14 151).trans (up_s (h := g13) (i := 151))
  refine sw_putfF (ci := 6) (k := 7) (pc' := 72) rfl dX5_init_69 (by decide +kernel) (by decide +kernel) w_1120 rfl rfl rfl (((congrFun eg14 135).trans (up_n (by omega))).trans zg13) (by show 100 ≤ _; omega) (Nat.le_of_ble_eq_true rfl) rfl rfl ?_
  refine sw_nm (fun g15 eg15 => ?_)
  have zg15 := (congrFun eg15 135).trans (up_s (h := g14) (i := 135))
  refine sw_aload_n (pc' := 73) rfl dX5_init_72 rfl ?_
  refine sw_bipush (pc' := 75) (v := 6) rfl dX5_init_73 (by decide +kernel) ?_
  refine sw_newa (t := 0) (len := 6) (pc' := 77) rfl dX5_init_75 (by decide +kernel) w_101 rfl (by decide +kernel) (by omega) (by omega) ?_
  refine sw_nm (fun g16 eg16 => ?_)
  have zg16 := (congrFun eg16 152).trans (up_s (h := g15) (i := 152))
  refine sw_putfF (ci := 6) (k := 8) (pc' := 80) rfl dX5_init_77 (by decide +kernel) (by decide +kernel) w_1121 rfl rfl rfl (((congrFun eg16 135).trans (up_n (by omega))).trans zg15) (by show 100 ≤ _; omega) (Nat.le_of_ble_eq_true rfl) rfl rfl ?_
  refine sw_nm (fun g17 eg17 => ?_)
  have zg17 := (congrFun eg17 135).trans (up_s (h := g16) (i := 135))
  refine sw_aload_n (pc' := 81) rfl dX5_init_80 rfl ?_
  refine sw_bipush (pc' := 83) (v := 6) rfl dX5_init_81 (by decide +kernel) ?_
  refine sw_newa (t := 0) (len := 6) (pc' := 85) rfl dX5_init_83 (by decide +kernel) w_101 rfl (by decide +kernel) (by omega) (by omega) ?_
  refine sw_nm (fun g18 eg18 => ?_)
  have zg18 := (congrFun eg18 153).trans (up_s (h := g17) (i := 153))
  refine sw_putfF (ci := 6) (k := 9) (pc' := 88) rfl dX5_init_85 (by decide +kernel) (by decide +kernel) w_1122 rfl rfl rfl (((congrFun eg18 135).trans (up_n (by omega))).trans zg17) (by show 100 ≤ _; omega) (Nat.le_of_ble_eq_true rfl) rfl rfl ?_
  refine sw_nm (fun g19 eg19 => ?_)
  have zg19 := (congrFun eg19 135).trans (up_s (h := g18) (i := 135))
  refine sw_aload_n (pc' := 89) rfl dX5_init_88 rfl ?_
  refine sw_bipush (pc' := 91) (v := 6) rfl dX5_init_89 (by decide +kernel) ?_
  refine sw_newa (t := 0) (len := 6) (pc' := 93) rfl dX5_init_91 (by decide +kernel) w_101 rfl (by decide +kernel) (by omega) (by omega) ?_
  refine sw_nm (fun g20 eg20 => ?_)
  have zg20 := (congrFun eg20 154).trans (up_s (h := g19) (i := 154))
  refine sw_putfF (ci := 6) (k := 10) (pc' := 96) rfl dX5_init_93 (by decide +kernel) (by decide +kernel) w_1123 rfl rfl rfl (((congrFun eg20 135).trans (up_n (by omega))).trans zg19) (by show 100 ≤ _; omega) (Nat.le_of_ble_eq_true rfl) rfl rfl ?_
  refine sw_nm (fun g21 eg21 => ?_)
  have zg21 := (congrFun eg21 135).trans (up_s (h := g20) (i := 135))
  refine sw_aload_n (pc' := 97) rfl dX5_init_96 rfl ?_
  refine sw_bipush (pc' := 99) (v := 6) rfl dX5_init_97 (by decide +kernel) ?_
  refine sw_newa (t := 1) (len := 6) (pc' := 101) rfl dX5_init_99 (by decide +kernel) w_1156 rfl (by decide +kernel) (by omega) (by omega) ?_
  refine sw_nm (fun g22 eg22 => ?_)
  have zg22 := (congrFun eg22 155).trans (up_s (h := g21) (i := 155))
  refine sw_putfF (ci := 6) (k := 11) (pc' := 104) rfl dX5_init_101 (by decide +kernel) (by decide +kernel) w_1124 rfl rfl rfl (((congrFun eg22 135).trans (up_n (by omega))).trans zg21) (by show 100 ≤ _; omega) (Nat.le_of_ble_eq_true rfl) rfl rfl ?_
  refine sw_nm (fun g23 eg23 => ?_)
  have zg23 := (congrFun eg23 135).trans (up_s (h := g22) (i := 135))
  refine sw_aload_n (pc' := 105) rfl dX5_init_104 rfl ?_
  refine sw_bipush (pc' := 107) (v := 11) rfl dX5_init_105 (by decide +kernel) ?_
  refine sw_newa (t := 0) (len := 11) (pc' := 109) rfl dX5_init_107 (by decide +kernel) w_101 rfl (by decide +kernel) (by omega) (by omega) ?_
  refine sw_nm (fun g24 eg24 => ?_)
  have zg24 := (congrFun eg24 156).trans (up_s (h := g23) (i := 156))
  refine sw_putfF (ci := 6) (k := 12) (pc' := 112) rfl dX5_init_109 (by decide +kernel) (by decide +kernel) w_1125 rfl rfl rfl (((congrFun eg24 135).trans (up_n (by omega))).trans zg23) (by show 100 ≤ _; omega) (Nat.le_of_ble_eq_true rfl) rfl rfl ?_
  refine sw_nm (fun g25 eg25 => ?_)
  have zg25 := (congrFun eg25 135).trans (up_s (h := g24) (i := 135))
  refine sw_aload_n (pc' := 113) rfl dX5_init_112 rfl ?_
  refine sw_bipush (pc' := 115) (v := 6) rfl dX5_init_113 (by decide +kernel) ?_
  refine sw_newa (t := 0) (len := 6) (pc' := 117) rfl dX5_init_115 (by decide +kernel) w_101 rfl (by decide +kernel) (by omega) (by omega) ?_
  refine sw_nm (fun g26 eg26 => ?_)
  have zg26 := (congrFun eg26 157).trans (up_s (h := g25) (i := 157))
  refine sw_putfF (ci := 6) (k := 13) (pc' := 120) rfl dX5_init_117 (by decide +kernel) (by decide +kernel) w_1126 rfl rfl rfl (((congrFun eg26 135).trans (up_n (by omega))).trans zg25) (by show 100 ≤ _; omega) (Nat.le_of_ble_eq_true rfl) rfl rfl ?_
  refine sw_nm (fun g27 eg27 => ?_)
  have zg27 := (congrFun eg27 135).trans (up_s (h := g26) (i := 135))
  refine sw_ret (v := none) ⟨dX5_init_120, rfl⟩ ?_
  refine ⟨rfl, rfl, ⟨fun _ _ => 0, fun _ => 0, ⟨zg27, ⟨_, ((congrFun eg27 136).trans ((up_n (by omega)).trans ((congrFun eg26 136).trans ((up_n (by omega)).trans ((congrFun eg25 136).trans ((up_n (by omega)).trans ((congrFun eg24 136).trans ((up_n (by omega)).trans ((congrFun eg23 136).trans ((up_n (by omega)).trans ((congrFun eg22 136).trans ((up_n (by omega)).trans ((congrFun eg21 136).trans ((up_n (by omega)).trans ((congrFun eg20 136).trans ((up_n (by omega)).trans ((congrFun eg19 136).trans ((up_n (by omega)).trans ((congrFun eg18 136).trans ((up_n (by omega)).trans ((congrFun eg17 136).trans ((up_n (by omega)).trans ((congrFun eg16 136).trans ((up_n (by omega)).trans ((congrFun eg15 136).trans ((up_n (by omega)).trans ((congrFun eg14 136).trans ((up_n (by omega)).trans ((congrFun eg13 136).trans ((up_n (by omega)).trans ((congrFun eg12 136).trans ((up_n (by omega)).trans ((congrFun eg11 136).trans ((up_n (by omega)).trans ((congrFun eg10 136).trans ((up_n (by omega)).trans ((congrFun eg9 136).trans ((up_n (by omega)).trans ((congrFun eg8 136).trans ((up_n (by omega)).trans ((congrFun eg7 136).trans ((up_n (by omega)).trans ((congrFun eg6 136).trans ((up_n (by omega)).trans ((congrFun eg5 136).trans ((up_n (by omega)).trans ((congrFun eg4 136).trans ((up_n (by omega)).trans ((congrFun eg3 136).trans ((up_n (by omega)).trans ((congrFun eg2 136).trans ((up_n (by omega)).trans ((congrFun eg1 136).trans ((up_n (by omega)).trans (rfl))))))))))))))))))))))))))))))))))))))))))))))))))))))).trans p136, fun k hk => (if_pos hk).trans (by rw [show 136 + 1 + k = 137 + k by omega])⟩, fun k hk => ((congrFun eg27 (137 + k)).trans ((up_n (by omega)).trans ((congrFun eg26 (137 + k)).trans ((up_n (by omega)).trans ((congrFun eg25 (137 + k)).trans ((up_n (by omega)).trans ((congrFun eg24 (137 + k)).trans ((up_n (by omega)).trans ((congrFun eg23 (137 + k)).trans ((up_n (by omega)).trans ((congrFun eg22 (137 + k)).trans ((up_n (by omega)).trans ((congrFun eg21 (137 + k)).trans ((up_n (by omega)).trans ((congrFun eg20 (137 + k)).trans ((up_n (by omega)).trans ((congrFun eg19 (137 + k)).trans ((up_n (by omega)).trans ((congrFun eg18 (137 + k)).trans ((up_n (by omega)).trans ((congrFun eg17 (137 + k)).trans ((up_n (by omega)).trans ((congrFun eg16 (137 + k)).trans ((up_n (by omega)).trans ((congrFun eg15 (137 + k)).trans ((up_n (by omega)).trans ((congrFun eg14 (137 + k)).trans ((up_n (by omega)).trans ((congrFun eg13 (137 + k)).trans ((up_n (by omega)).trans ((congrFun eg12 (137 + k)).trans ((up_n (by omega)).trans ((congrFun eg11 (137 + k)).trans ((up_n (by omega)).trans ((congrFun eg10 (137 + k)).trans ((up_n (by omega)).trans ((congrFun eg9 (137 + k)).trans ((up_n (by omega)).trans ((congrFun eg8 (137 + k)).trans ((up_n (by omega)).trans ((congrFun eg7 (137 + k)).trans ((up_n (by omega)).trans ((congrFun eg6 (137 + k)).trans ((up_n (by omega)).trans ((congrFun eg5 (137 + k)).trans ((up_n (by omega)).trans ((congrFun eg4 (137 + k)).trans ((up_n (by omega)).trans ((congrFun eg3 (137 + k)).trans ((up_n (by omega)).trans ((congrFun eg2 (137 + k)).trans ((up_n (by omega)).trans ((congrFun eg1 (137 + k)).trans ((up_n (by omega)).trans (rfl))))))))))))))))))))))))))))))))))))))))))))))))))))))).trans (prow k hk), (((congrFun eg27 148).trans (up_n (by omega))).trans (((congrFun eg26 148).trans (up_n (by omega))).trans (((congrFun eg25 148).trans (up_n (by omega))).trans (((congrFun eg24 148).trans (up_n (by omega))).trans (((congrFun eg23 148).trans (up_n (by omega))).trans (((congrFun eg22 148).trans (up_n (by omega))).trans (((congrFun eg21 148).trans (up_n (by omega))).trans (((congrFun eg20 148).trans (up_n (by omega))).trans (((congrFun eg19 148).trans (up_n (by omega))).trans (((congrFun eg18 148).trans (up_n (by omega))).trans (((congrFun eg17 148).trans (up_n (by omega))).trans (((congrFun eg16 148).trans (up_n (by omega))).trans (((congrFun eg15 148).trans (up_n (by omega))).trans (((congrFun eg14 148).trans (up_n (by omega))).trans (((congrFun eg13 148).trans (up_n (by omega))).trans (((congrFun eg12 148).trans (up_n (by omega))).trans (((congrFun eg11 148).trans (up_n (by omega))).trans (((congrFun eg10 148).trans (up_n (by omega))).trans (((congrFun eg9 148).trans (up_n (by omega))).trans (((congrFun eg8 148).trans (up_n (by omega))).trans (((congrFun eg7 148).trans (up_n (by omega))).trans (((congrFun eg6 148).trans (up_n (by omega))).trans (((congrFun eg5 148).trans (up_n (by omega))).trans (((congrFun eg4 148).trans (up_n (by omega))).trans (((congrFun eg3 148).trans (up_n (by omega))).trans zg2))))))))))))))))))))))))), (((congrFun eg27 149).trans (up_n (by omega))).trans (((congrFun eg26 149).trans (up_n (by omega))).trans (((congrFun eg25 149).trans (up_n (by omega))).trans (((congrFun eg24 149).trans (up_n (by omega))).trans (((congrFun eg23 149).trans (up_n (by omega))).trans (((congrFun eg22 149).trans (up_n (by omega))).trans (((congrFun eg21 149).trans (up_n (by omega))).trans (((congrFun eg20 149).trans (up_n (by omega))).trans (((congrFun eg19 149).trans (up_n (by omega))).trans (((congrFun eg18 149).trans (up_n (by omega))).trans (((congrFun eg17 149).trans (up_n (by omega))).trans (((congrFun eg16 149).trans (up_n (by omega))).trans (((congrFun eg15 149).trans (up_n (by omega))).trans (((congrFun eg14 149).trans (up_n (by omega))).trans (((congrFun eg13 149).trans (up_n (by omega))).trans (((congrFun eg12 149).trans (up_n (by omega))).trans (((congrFun eg11 149).trans (up_n (by omega))).trans (((congrFun eg10 149).trans (up_n (by omega))).trans (((congrFun eg9 149).trans (up_n (by omega))).trans (((congrFun eg8 149).trans (up_n (by omega))).trans (((congrFun eg7 149).trans (up_n (by omega))).trans (((congrFun eg6 149).trans (up_n (by omega))).trans (((congrFun eg5 149).trans (up_n (by omega))).trans zg4))))))))))))))))))))))), sh_s0 ▸ (((congrFun eg27 150).trans (up_n (by omega))).trans (((congrFun eg26 150).trans (up_n (by omega))).trans (((congrFun eg25 150).trans (up_n (by omega))).trans (((congrFun eg24 150).trans (up_n (by omega))).trans (((congrFun eg23 150).trans (up_n (by omega))).trans (((congrFun eg22 150).trans (up_n (by omega))).trans (((congrFun eg21 150).trans (up_n (by omega))).trans (((congrFun eg20 150).trans (up_n (by omega))).trans (((congrFun eg19 150).trans (up_n (by omega))).trans (((congrFun eg18 150).trans (up_n (by omega))).trans (((congrFun eg17 150).trans (up_n (by omega))).trans (((congrFun eg16 150).trans (up_n (by omega))).trans (((congrFun eg15 150).trans (up_n (by omega))).trans (((congrFun eg14 150).trans (up_n (by omega))).trans (((congrFun eg13 150).trans (up_n (by omega))).trans zg12))))))))))))))), (((congrFun eg27 151).trans (up_n (by omega))).trans (((congrFun eg26 151).trans (up_n (by omega))).trans (((congrFun eg25 151).trans (up_n (by omega))).trans (((congrFun eg24 151).trans (up_n (by omega))).trans (((congrFun eg23 151).trans (up_n (by omega))).trans (((congrFun eg22 151).trans (up_n (by omega))).trans (((congrFun eg21 151).trans (up_n (by omega))).trans (((congrFun eg20 151).trans (up_n (by omega))).trans (((congrFun eg19 151).trans (up_n (by omega))).trans (((congrFun eg18 151).trans (up_n (by omega))).trans (((congrFun eg17 151).trans (up_n (by omega))).trans (((congrFun eg16 151).trans (up_n (by omega))).trans (((congrFun eg15 151).trans (up_n (by omega))).trans zg14))))))))))))), (((congrFun eg27 152).trans (up_n (by omega))).trans (((congrFun eg26 152).trans (up_n (by omega))).trans (((congrFun eg25 152).trans (up_n (by omega))).trans (((congrFun eg24 152).trans (up_n (by omega))).trans (((congrFun eg23 152).trans (up_n (by omega))).trans (((congrFun eg22 152).trans (up_n (by omega))).trans (((congrFun eg21 152).trans (up_n (by omega))).trans (((congrFun eg20 152).trans (up_n (by omega))).trans (((congrFun eg19 152).trans (up_n (by omega))).trans (((congrFun eg18 152).trans (up_n (by omega))).trans (((congrFun eg17 152).trans (up_n (by omega))).trans zg16))))))))))), (((congrFun eg27 153).trans (up_n (by omega))).trans (((congrFun eg26 153).trans (up_n (by omega))).trans (((congrFun eg25 153).trans (up_n (by omega))).trans (((congrFun eg24 153).trans (up_n (by omega))).trans (((congrFun eg23 153).trans (up_n (by omega))).trans (((congrFun eg22 153).trans (up_n (by omega))).trans (((congrFun eg21 153).trans (up_n (by omega))).trans (((congrFun eg20 153).trans (up_n (by omega))).trans (((congrFun eg19 153).trans (up_n (by omega))).trans zg18))))))))), wa_s0 ▸ (((congrFun eg27 154).trans (up_n (by omega))).trans (((congrFun eg26 154).trans (up_n (by omega))).trans (((congrFun eg25 154).trans (up_n (by omega))).trans (((congrFun eg24 154).trans (up_n (by omega))).trans (((congrFun eg23 154).trans (up_n (by omega))).trans (((congrFun eg22 154).trans (up_n (by omega))).trans (((congrFun eg21 154).trans (up_n (by omega))).trans zg20))))))), (((congrFun eg27 155).trans (up_n (by omega))).trans (((congrFun eg26 155).trans (up_n (by omega))).trans (((congrFun eg25 155).trans (up_n (by omega))).trans (((congrFun eg24 155).trans (up_n (by omega))).trans (((congrFun eg23 155).trans (up_n (by omega))).trans zg22))))), (((congrFun eg27 156).trans (up_n (by omega))).trans (((congrFun eg26 156).trans (up_n (by omega))).trans (((congrFun eg25 156).trans (up_n (by omega))).trans zg24))), (((congrFun eg27 157).trans (up_n (by omega))).trans zg26)⟩, fun _ _ j hj => absurd hj (Nat.not_lt_zero _), fun _ _ e => by cases e⟩, fun i hi => ((congrFun eg27 i).trans ((up_n (by omega)).trans ((congrFun eg26 i).trans ((up_n (by omega)).trans ((congrFun eg25 i).trans ((up_n (by omega)).trans ((congrFun eg24 i).trans ((up_n (by omega)).trans ((congrFun eg23 i).trans ((up_n (by omega)).trans ((congrFun eg22 i).trans ((up_n (by omega)).trans ((congrFun eg21 i).trans ((up_n (by omega)).trans ((congrFun eg20 i).trans ((up_n (by omega)).trans ((congrFun eg19 i).trans ((up_n (by omega)).trans ((congrFun eg18 i).trans ((up_n (by omega)).trans ((congrFun eg17 i).trans ((up_n (by omega)).trans ((congrFun eg16 i).trans ((up_n (by omega)).trans ((congrFun eg15 i).trans ((up_n (by omega)).trans ((congrFun eg14 i).trans ((up_n (by omega)).trans ((congrFun eg13 i).trans ((up_n (by omega)).trans ((congrFun eg12 i).trans ((up_n (by omega)).trans ((congrFun eg11 i).trans ((up_n (by omega)).trans ((congrFun eg10 i).trans ((up_n (by omega)).trans ((congrFun eg9 i).trans ((up_n (by omega)).trans ((congrFun eg8 i).trans ((up_n (by omega)).trans ((congrFun eg7 i).trans ((up_n (by omega)).trans ((congrFun eg6 i).trans ((up_n (by omega)).trans ((congrFun eg5 i).trans ((up_n (by omega)).trans ((congrFun eg4 i).trans ((up_n (by omega)).trans ((congrFun eg3 i).trans ((up_n (by omega)).trans ((congrFun eg2 i).trans ((up_n (by omega)).trans ((congrFun eg1 i).trans ((up_n (by omega)).trans (rfl))))))))))))))))))))))))))))))))))))))))))))))))))))))).trans (pF i (by omega))⟩
end
section
/-! 56.law -/
/-! the law's own methods -/
/-- a number, or thrown is one of l -/
def OX (l : List String) (q : ARes × CS) : Prop := (∃ v, q.1 = rI v) ∨ ∃ E, E ∈ l ∧ q.1 = .inr E
/-- a text, or thrown is one of l -/
def OT (l : List String) (q : ARes × CS) : Prop := q.1 = ivN ∨ ∃ E, E ∈ l ∧ q.1 = .inr E
section
variable {l : List String} {σ τ : CS} {a : Int32} {g : Nat → ARes × CS}
theorem ox_i {v : Int32} : OX l (rI v, τ) := Or.inl ⟨v, rfl⟩
theorem ox_I (h : sI ∈ l) : OX l (xI, τ) := Or.inr ⟨_, h, rfl⟩
theorem ox_A (h : sA ∈ l) : OX l (xA, τ) := Or.inr ⟨_, h, rfl⟩
theorem ox_S (h : sS ∈ l) : OX l (xS, τ) := Or.inr ⟨_, h, rfl⟩
theorem ox_if {c : Prop} [Decidable c] {x y : ARes × CS} (h1 : OX l x) (h2 : OX l y) : OX l (if c then x else y) := by split <;> assumption
theorem ox_Sh (h : sI ∈ l) (hg : ∀ k, OX l (g k)) : OX l (onSh a σ g) := ox_if (ox_I h) (hg _)
theorem ox_Wk (h : sI ∈ l) (hg : ∀ k, OX l (g k)) : OX l (onWk a σ g) := ox_if (ox_I h) (hg _)
theorem ox_Rw (h : sI ∈ l) (hg : ∀ k, OX l (g k)) : OX l (onRw a σ g) := ox_Sh h (fun k => ox_if (ox_I h) (hg k))
theorem ox_Li (h : sI ∈ l) (hg : ∀ k, OX l (g k)) : OX l (onLi a σ g) := ox_if (ox_I h) (ox_Sh h hg)
theorem ot_t : OT l (ivN, τ) := Or.inl rfl
theorem ot_I (h : sI ∈ l) : OT l (xI, τ) := Or.inr ⟨_, h, rfl⟩
theorem ot_A (h : sA ∈ l) : OT l (xA, τ) := Or.inr ⟨_, h, rfl⟩
theorem ot_S (h : sS ∈ l) : OT l (xS, τ) := Or.inr ⟨_, h, rfl⟩
theorem ot_if {c : Prop} [Decidable c] {x y : ARes × CS} (h1 : OT l x) (h2 : OT l y) : OT l (if c then x else y) := by split <;> assumption
theorem ot_Sh (h : sI ∈ l) (hg : ∀ k, OT l (g k)) : OT l (onSh a σ g) := ot_if (ot_I h) (hg _)
theorem ot_Wk (h : sI ∈ l) (hg : ∀ k, OT l (g k)) : OT l (onWk a σ g) := ot_if (ot_I h) (hg _)
end
/-- a method of the law: its number tells what was thrown; out holds the answer -/
def LPo (h : AH) (n : Nat) (t : ARes → Int32) (q : ARes × CS) : ARes → AH → Nat → Prop := fun r' h' n' => r' = .inl (some (.int (t q.1))) ∧ n ≤ n' ∧ RC h' q.2 ∧ (∃ w s, h' 158 = .inr (5, [.long w, s]) ∧ ∀ v, q.1 = rI v → w = v.toInt64) ∧ ∀ i, i < 100 ∨ 135 ≤ i → i ≠ 158 → i < n → h' i = h i
section
variable {h p : AH} {n n' : Nat} {t : ARes → Int32} {q : ARes × CS} {w : Int64} {s : Value}
theorem lp_x {E : String} {c : Int32} (e : q.1 = .inr E) (ht : t (.inr E) = c) (hR : RC p q.2) (hF : FrC h p n) (hO : h 158 = .inr (5, [.long w, s])) (hn : 159 ≤ n) (hn' : n ≤ n') : LPo h n t q (.inl (some (.int c))) p n' := ⟨by rw [e, ht], hn', hR, ⟨w, s, (hF 158 (by omega) (by omega)).trans hO, fun v e2 => by rw [e] at e2; cases e2⟩, fun i a _ hi => hF i a hi⟩
theorem lp_v {p9 : AH} {v : Int32} {a b : String} (e : q.1 = rI v) (hR : RC p q.2) (hF : FrC h p n) (h9 : p9 158 = .inr (5, [.long w, s])) (ew : w = v.toInt64) (hG : ∀ i, i ≠ 158 → p9 i = p i) : LPo h n (tc a b) q (.inl (some (.int 0))) p9 n := ⟨by rw [e]; rfl, Nat.le_refl _, hR.frT (fun i hi => hG i (by omega)), ⟨w, s, h9, fun v2 e2 => by rw [e] at e2; cases e2; exact ew⟩, fun i a b hi => (hG i b).trans (hF i a hi)⟩
theorem lp_t {p9 : AH} {a b : String} (e : q.1 = ivN) (hR : RC p q.2) (hF : FrC h p n) (h9 : p9 158 = .inr (5, [.long w, s])) (hG : ∀ i, i ≠ 158 → p9 i = p i) (hn' : n ≤ n') : LPo h n (tc a b) q (.inl (some (.int 0))) p9 n' := ⟨by rw [e]; rfl, hn', hR.frT (fun i hi => hG i (by omega)), ⟨w, s, h9, fun v2 e2 => by rw [e] at e2; cases e2⟩, fun i a b hi => (hG i b).trans (hF i a hi)⟩
theorem cp_n {A : Nat → AH → Option Value → Prop} {l : List String} {n0 : Nat} (hO : OX l q) (k : ∀ h' v, q.1 = rI v → RC h' q.2 → FrC h h' n → A n h' (some (.int v))) : ∀ (v : Option Value) (h' : AH) (n' : Nat), n0 ≤ n' → CP h n q (.inl v) h' n' → A n' h' v := by
  rintro v h' n' - ⟨e, rfl, g1, g2⟩
  rcases hO with ⟨v, e2⟩ | ⟨E, -, e2⟩
  · rw [e2] at e
    cases e
    exact k h' v e2 g1 g2
  · rw [e2] at e
    cases e
theorem cp_e {A : String → AH → Nat → Prop} {l : List String} {n0 : Nat} (hO : OX l q) (k : ∀ E, E ∈ l → ∀ h', q.1 = .inr E → RC h' q.2 → FrC h h' n → A E h' n) : ∀ (E : String) (h' : AH) (n' : Nat), n0 ≤ n' → CP h n q (.inr E) h' n' → A E h' n' := by
  rintro E h' n' - ⟨e, rfl, g1, g2⟩
  rcases hO with ⟨v, e2⟩ | ⟨E2, hE, e2⟩
  · rw [e2] at e
    cases e
  · rw [e2] at e
    cases e
    exact k E hE h' e2 g1 g2
theorem ct_n {A : Nat → AH → Option Value → Prop} {l : List String} {n0 : Nat} (hO : OT l q) (k : ∀ h' n' x, n ≤ n' → q.1 = ivN → RC h' q.2 → FrC h h' n → A n' h' (some (.ref x))) : ∀ (v : Option Value) (h' : AH) (n' : Nat), n0 ≤ n' → CTo h n q (.inl v) h' n' → A n' h' v := by
  rintro v h' n' - ⟨g0, e, g1, g2⟩
  rcases hO with e2 | ⟨E, -, e2⟩
  · rw [e2] at e
    obtain ⟨x, e⟩ := e
    cases e
    exact k h' n' x g0 e2 g1 g2
  · rw [e2] at e
    cases e
theorem ct_e {A : String → AH → Nat → Prop} {l : List String} {n0 : Nat} (hO : OT l q) (k : ∀ E, E ∈ l → ∀ h' n', n ≤ n' → q.1 = .inr E → RC h' q.2 → FrC h h' n → A E h' n') : ∀ (E : String) (h' : AH) (n' : Nat), n0 ≤ n' → CTo h n q (.inr E) h' n' → A E h' n' := by
  rintro E h' n' - ⟨g0, e, g1, g2⟩
  rcases hO with e2 | ⟨E2, hE, e2⟩
  · rw [e2] at e
    obtain ⟨x, e⟩ := e
    cases e
  · rw [e2] at e
    cases e
    exact k E hE h' n' g0 e2 g1 g2
end
theorem all1 {P : String → Prop} {a : String} (h1 : P a) : ∀ E, E ∈ [a] → P E := fun E h => by
  rcases List.mem_singleton.mp h with rfl
  exact h1
theorem all2 {P : String → Prop} {a b : String} (h1 : P a) (h2 : P b) : ∀ E, E ∈ [a, b] → P E := fun E h => by
  rcases List.mem_cons.mp h with rfl | h
  · exact h1
  · exact all1 h2 E h
theorem all3 {P : String → Prop} {a b c : String} (h1 : P a) (h2 : P b) (h3 : P c) : ∀ E, E ∈ [a, b, c] → P E := fun E h => by
  rcases List.mem_cons.mp h with rfl | h
  · exact h1
  · exact all2 h2 h3 E h
theorem pas0 {P : Nat × Nat × Nat × Nat → Prop} : ∀ z ∈ ([] : List (Nat × Nat × Nat × Nat)), P z := fun z h => by cases h
theorem pas1 {P : Nat × Nat × Nat × Nat → Prop} {a : Nat × Nat × Nat × Nat} (h1 : P a) : ∀ z ∈ [a], P z := fun z h => by
  rcases List.mem_singleton.mp h with rfl
  exact h1
theorem pas2 {P : Nat × Nat × Nat × Nat → Prop} {a b : Nat × Nat × Nat × Nat} (h1 : P a) (h2 : P b) : ∀ z ∈ [a, b], P z := fun z h => by
  rcases List.mem_cons.mp h with rfl | h
  · exact h1
  · exact pas1 h2 z h
section
variable {SR : SRT} {M : MI} {d bc bs pc n : Nat} {lv : List (Nat × Value)} {h : AH} {Post : ARes → AH → Nat → Prop}
theorem swx_catchW {E : String} {pre suf : List (Nat × Nat × Nat × Nat)} {x : Nat × Nat × Nat × Nat} {k0 : Nat} {lv' : List (Nat × Value)} (hsplit : M.2.2.2.2 = pre ++ x :: suf) (hpass : ∀ z ∈ pre, z.2.2.2 ≠ 0 ∧ ∃ nm, Cond.classLink M.1.cls z.2.2.2 nm ∈ GT ∧ (E, nm) ∈ XP) (hx0 : x.1 ≤ pc ∧ pc < x.2.1) (h0 : x.2.2.2 ≠ 0) (hlink : Cond.classLink M.1.cls x.2.2.2 E ∈ GT) (hcast : Cond.castable E E ∈ NW)
    (hdg : decode M.2.1 x.2.2.1 = .ok (.astore k0, 2)) (hk : k0 < M.2.2.1) (hl9 : lv.filter (fun q => !(q.1 == k0) && !(q.1 + 1 == k0 && q.2.category == 2)) = lv') (k : SW SR M d bc bs (x.2.2.1 + 2) lv' [] h n Post) : SWX SR M d bc bs pc lv E h n Post := by
  subst hl9
  intro G p l e R s m args below meth c A ad0 n0 Q hc hr he H locs cells slots ls ad hm hl hx hbc hbs q9 ce rest hce hcv hcl
  obtain ⟨hx1, hb1, hr1, hml1, hown1, hts1, hlk1, htb1, hlt1, hin1, hK1, hN1, hSR1, hAO1, hC1, hA1⟩ := id hc
  have e1 : c.exceptionTable.toList = tableOf pre ++ ⟨x.1, x.2.1, x.2.2.1, x.2.2.2⟩ :: tableOf suf := by
    rw [htb1, hsplit]
    simp [tableOf]
  refine vx_catch hown1 (tableOf pre) ⟨x.1, x.2.1, x.2.2.1, x.2.2.2⟩ (tableOf suf) e1 (fun z hz => ?_) (by simp [covers]; omega) h0 (hts1 _ hlink) (va_Nw.use rfl (hN1 _ hcast)) hce hcv hcl ?_
  · obtain ⟨z', hz', rfl⟩ := List.mem_map.mp hz
    obtain ⟨g1, nm, g2, g3⟩ := hpass z' hz'
    exact Or.inr ⟨g1, nm, hts1 _ g2, hAO1.2.2.2 _ g3⟩
  · refine lv_astore hx1 hb1 hdg hl.1 hk rfl (fun ls' hl' => ?_)
    refine k G p l e R s m args below meth c A ad0 n0 Q hc hr he H locs cells slots ls' ad hm ⟨⟨hl'.1, hl'.2.1, fun q hq => ?_⟩, fun q hq => hl.2.1 q (List.mem_filter.mp hq).1, fun v hv => by cases hv⟩ hx hbc hbs
    apply hl'.2.2
    refine List.mem_cons_of_mem _ ?_
    obtain ⟨z, hz, rfl⟩ := List.mem_map.mp hq
    obtain ⟨z1, z2⟩ := List.mem_filter.mp hz
    refine List.mem_filter.mpr ⟨List.mem_map.mpr ⟨z, z1, rfl⟩, ?_⟩
    show (!(z.1 == k0) && !(z.1 + 1 == k0 && (em ad z.2).category == 2)) = true
    rw [em_cat]
    exact z2
end
theorem mm_IAS_I : sI ∈ [sI, sA, sS] := .head _
theorem mm_IAS_A : sA ∈ [sI, sA, sS] := .tail _ (.head _)
theorem mm_IAS_S : sS ∈ [sI, sA, sS] := .tail _ (.tail _ (.head _))
theorem ox_put {σ : CS} {a x : Int32} : OX [sI, sA, sS] (opPut σ a x) := by
  unfold opPut
  repeat' first
    | with_reducible exact ox_i
    | with_reducible exact ox_I mm_IAS_I
    | with_reducible exact ox_A mm_IAS_A
    | with_reducible exact ox_S mm_IAS_S
    | with_reducible refine ox_Sh mm_IAS_I (fun _ => ?_)
    | with_reducible refine ox_Wk mm_IAS_I (fun _ => ?_)
    | with_reducible refine ox_Rw mm_IAS_I (fun _ => ?_)
    | with_reducible refine ox_Li mm_IAS_I (fun _ => ?_)
    | with_reducible refine ox_if ?_ ?_
    | exact ox_i
    | exact ox_I mm_IAS_I
    | exact ox_A mm_IAS_A
    | exact ox_S mm_IAS_S
    | refine ox_Sh mm_IAS_I (fun _ => ?_)
    | refine ox_Wk mm_IAS_I (fun _ => ?_)
    | refine ox_Rw mm_IAS_I (fun _ => ?_)
    | refine ox_Li mm_IAS_I (fun _ => ?_)
    | refine ox_if ?_ ?_
    | split
theorem L_put {h : AH} {d bc bs n N : Nat} {σ : CS} {a x : Int32} {w : Int64} {s : Value} (hR : RC h σ) (hT : TXT h) (hV : IV σ N) (hN : N < 2 ^ 31) (hO : h 158 = .inr (5, [.long w, s])) (hn : 159 ≤ n) (hd : 12 ≤ d) (h1 : 60 ≤ bc) (h2 : 400 ≤ bs) : SM SR0 ML_put d bc bs [.ref 100, .int a, .int x, .ref 158] h n (LPo h n (tc sI sA) (opPut σ a x)) := by
  refine sm_ofH pn_OverwalksLaw (by decide +kernel) (Nat.le_of_ble_eq_true rfl) ?_
  refine sw_aload_n (pc' := 1) rfl dL_put_0 rfl ?_
  refine sw_aload_n (pc' := 2) rfl dL_put_1 rfl ?_
  refine sw_iload_n (pc' := 3) rfl dL_put_2 rfl ?_
  refine sw_iload_n (pc' := 4) rfl dL_put_3 rfl ?_
  refine sw_V (M' := MX3_put) (d' := d - 1) (bc' := 20) (bs' := 200) (ci := 4) (as := [_, _]) dL_put_4 w_398 ok_X3_put (m_put hR (by omega) (Nat.le_refl _) (Nat.le_refl _)) hR.1 rfl (by omega) (Nat.le_of_ble_eq_true rfl) (by omega) (by omega) (cp_e ox_put (all3 (fun p pe pR pF => ?_) (fun p pe pR pF => ?_) (fun p pe pR pF => ?_))) (cp_n ox_put (fun p v pe pR pF => ?_))
  · refine swx_catchW (E := "java/lang/IndexOutOfBoundsException") (pre := []) (suf := [(0, 11, 18, 21), (0, 11, 22, 23)]) (x := (0, 11, 14, 19)) (k0 := 4) (lv' := [(0, _), (1, _), (2, _), (3, _)]) rfl (pas0) (by decide +kernel) (by decide +kernel) w_395 v_325 dL_put_14 (by decide +kernel) rfl ?_
    refine sw_iconst (pc' := 17) (v := 1) rfl dL_put_16 (by decide +kernel) ?_
    refine sw_ret (v := some _) ⟨dL_put_17, _, rfl, rfl⟩ ?_
    exact lp_x pe tc_1 pR pF hO hn (Nat.le_refl _)
  · refine swx_catchW (E := "java/lang/IllegalArgumentException") (pre := [(0, 11, 14, 19)]) (suf := [(0, 11, 22, 23)]) (x := (0, 11, 18, 21)) (k0 := 4) (lv' := [(0, _), (1, _), (2, _), (3, _)]) rfl (pas1 ⟨by decide +kernel, _, w_395, .tail _ (.tail _ (.head _))⟩) (by decide +kernel) (by decide +kernel) w_396 v_249 dL_put_18 (by decide +kernel) rfl ?_
    refine sw_iconst (pc' := 21) (v := 2) rfl dL_put_20 (by decide +kernel) ?_
    refine sw_ret (v := some _) ⟨dL_put_21, _, rfl, rfl⟩ ?_
    exact lp_x pe (tc_2 sAI) pR pF hO hn (Nat.le_refl _)
  · refine swx_catchW (E := "java/lang/IllegalStateException") (pre := [(0, 11, 14, 19), (0, 11, 18, 21)]) (suf := []) (x := (0, 11, 22, 23)) (k0 := 4) (lv' := [(0, _), (1, _), (2, _), (3, _)]) rfl (pas2 ⟨by decide +kernel, _, w_395, .tail _ (.tail _ (.tail _ (.tail _ (.head _))))⟩ ⟨by decide +kernel, _, w_396, .tail _ (.tail _ (.tail _ (.tail _ (.tail _ (.head _)))))⟩) (by decide +kernel) (by decide +kernel) w_397 v_378 dL_put_22 (by decide +kernel) rfl ?_
    refine sw_iconst (pc' := 25) (v := 3) rfl dL_put_24 (by decide +kernel) ?_
    refine sw_ret (v := some _) ⟨dL_put_25, _, rfl, rfl⟩ ?_
    exact lp_x pe (tc_3 sSI sSA) pR pF hO hn (Nat.le_refl _)
  refine sw_i2l (pc' := 8) rfl dL_put_7 ?_
  refine sw_putN (ci := 5) (k := 0) (pc' := 11) rfl dL_put_8 (by decide +kernel) (by decide +kernel) v_347 rfl ((pF 158 (by omega) (by omega)).trans hO) (by show 100 ≤ _; omega) (Nat.le_of_ble_eq_true rfl) rfl rfl ?_
  refine sw_nm (fun g1 eg1 => ?_)
  have zg1 := (congrFun eg1 158).trans (up_s (h := p) (i := 158))
  refine sw_goto (tgt := 26) dL_put_11 (by decide +kernel) ?_
  refine sw_iconst (pc' := 27) (v := 0) rfl dL_put_26 (by decide +kernel) ?_
  refine sw_ret (v := some _) ⟨dL_put_27, _, rfl, rfl⟩ ?_
  exact lp_v pe pR pF zg1 rfl (fun i h1 => (congrFun eg1 i).trans ((up_n h1).trans (rfl)))
theorem ox_putAll {σ : CS} {a x y z v : Int32} : OX [sI, sA, sS] (opPutAll σ a x y z v) := by
  unfold opPutAll
  repeat' first
    | with_reducible exact ox_i
    | with_reducible exact ox_I mm_IAS_I
    | with_reducible exact ox_A mm_IAS_A
    | with_reducible exact ox_S mm_IAS_S
    | with_reducible refine ox_Sh mm_IAS_I (fun _ => ?_)
    | with_reducible refine ox_Wk mm_IAS_I (fun _ => ?_)
    | with_reducible refine ox_Rw mm_IAS_I (fun _ => ?_)
    | with_reducible refine ox_Li mm_IAS_I (fun _ => ?_)
    | with_reducible refine ox_if ?_ ?_
    | exact ox_i
    | exact ox_I mm_IAS_I
    | exact ox_A mm_IAS_A
    | exact ox_S mm_IAS_S
    | refine ox_Sh mm_IAS_I (fun _ => ?_)
    | refine ox_Wk mm_IAS_I (fun _ => ?_)
    | refine ox_Rw mm_IAS_I (fun _ => ?_)
    | refine ox_Li mm_IAS_I (fun _ => ?_)
    | refine ox_if ?_ ?_
    | split
theorem L_putAll {h : AH} {d bc bs n N : Nat} {σ : CS} {a x y z v : Int32} {w : Int64} {s : Value} (hR : RC h σ) (hT : TXT h) (hV : IV σ N) (hN : N < 2 ^ 31) (hO : h 158 = .inr (5, [.long w, s])) (hn : 159 ≤ n) (hd : 12 ≤ d) (h1 : 60 ≤ bc) (h2 : 400 ≤ bs) : SM SR0 ML_putAll d bc bs [.ref 100, .int a, .int x, .int y, .int z, .int v, .ref 158] h n (LPo h n (tc sI sA) (opPutAll σ a x y z v)) := by
  refine sm_ofH pn_OverwalksLaw (by decide +kernel) (Nat.le_of_ble_eq_true rfl) ?_
  refine sw_aload (pc' := 2) rfl dL_putAll_0 rfl ?_
  refine sw_aload_n (pc' := 3) rfl dL_putAll_2 rfl ?_
  refine sw_iload_n (pc' := 4) rfl dL_putAll_3 rfl ?_
  refine sw_iload_n (pc' := 5) rfl dL_putAll_4 rfl ?_
  refine sw_iload_n (pc' := 6) rfl dL_putAll_5 rfl ?_
  refine sw_iload (pc' := 8) rfl dL_putAll_6 rfl ?_
  refine sw_iload (pc' := 10) rfl dL_putAll_8 rfl ?_
  refine sw_V (M' := MX3_putAll) (d' := d - 1) (bc' := 20) (bs' := 200) (ci := 4) (as := [_, _, _, _, _]) dL_putAll_10 w_460 ok_X3_putAll (m_putAll hR (by omega) (Nat.le_refl _) (Nat.le_refl _)) hR.1 rfl (by omega) (Nat.le_of_ble_eq_true rfl) (by omega) (by omega) (cp_e ox_putAll (all3 (fun p pe pR pF => ?_) (fun p pe pR pF => ?_) (fun p pe pR pF => ?_))) (cp_n ox_putAll (fun p v pe pR pF => ?_))
  · refine swx_catchW (E := "java/lang/IndexOutOfBoundsException") (pre := []) (suf := [(0, 17, 24, 21), (0, 17, 28, 23)]) (x := (0, 17, 20, 19)) (k0 := 7) (lv' := [(0, _), (1, _), (2, _), (3, _), (4, _), (5, _), (6, _)]) rfl (pas0) (by decide +kernel) (by decide +kernel) w_395 v_325 dL_putAll_20 (by decide +kernel) rfl ?_
    refine sw_iconst (pc' := 23) (v := 1) rfl dL_putAll_22 (by decide +kernel) ?_
    refine sw_ret (v := some _) ⟨dL_putAll_23, _, rfl, rfl⟩ ?_
    exact lp_x pe tc_1 pR pF hO hn (Nat.le_refl _)
  · refine swx_catchW (E := "java/lang/IllegalArgumentException") (pre := [(0, 17, 20, 19)]) (suf := [(0, 17, 28, 23)]) (x := (0, 17, 24, 21)) (k0 := 7) (lv' := [(0, _), (1, _), (2, _), (3, _), (4, _), (5, _), (6, _)]) rfl (pas1 ⟨by decide +kernel, _, w_395, .tail _ (.tail _ (.head _))⟩) (by decide +kernel) (by decide +kernel) w_396 v_249 dL_putAll_24 (by decide +kernel) rfl ?_
    refine sw_iconst (pc' := 27) (v := 2) rfl dL_putAll_26 (by decide +kernel) ?_
    refine sw_ret (v := some _) ⟨dL_putAll_27, _, rfl, rfl⟩ ?_
    exact lp_x pe (tc_2 sAI) pR pF hO hn (Nat.le_refl _)
  · refine swx_catchW (E := "java/lang/IllegalStateException") (pre := [(0, 17, 20, 19), (0, 17, 24, 21)]) (suf := []) (x := (0, 17, 28, 23)) (k0 := 7) (lv' := [(0, _), (1, _), (2, _), (3, _), (4, _), (5, _), (6, _)]) rfl (pas2 ⟨by decide +kernel, _, w_395, .tail _ (.tail _ (.tail _ (.tail _ (.head _))))⟩ ⟨by decide +kernel, _, w_396, .tail _ (.tail _ (.tail _ (.tail _ (.tail _ (.head _)))))⟩) (by decide +kernel) (by decide +kernel) w_397 v_378 dL_putAll_28 (by decide +kernel) rfl ?_
    refine sw_iconst (pc' := 31) (v := 3) rfl dL_putAll_30 (by decide +kernel) ?_
    refine sw_ret (v := some _) ⟨dL_putAll_31, _, rfl, rfl⟩ ?_
    exact lp_x pe (tc_3 sSI sSA) pR pF hO hn (Nat.le_refl _)
  refine sw_i2l (pc' := 14) rfl dL_putAll_13 ?_
  refine sw_putN (ci := 5) (k := 0) (pc' := 17) rfl dL_putAll_14 (by decide +kernel) (by decide +kernel) v_347 rfl ((pF 158 (by omega) (by omega)).trans hO) (by show 100 ≤ _; omega) (Nat.le_of_ble_eq_true rfl) rfl rfl ?_
  refine sw_nm (fun g1 eg1 => ?_)
  have zg1 := (congrFun eg1 158).trans (up_s (h := p) (i := 158))
  refine sw_goto (tgt := 32) dL_putAll_17 (by decide +kernel) ?_
  refine sw_iconst (pc' := 33) (v := 0) rfl dL_putAll_32 (by decide +kernel) ?_
  refine sw_ret (v := some _) ⟨dL_putAll_33, _, rfl, rfl⟩ ?_
  exact lp_v pe pR pF zg1 rfl (fun i h1 => (congrFun eg1 i).trans ((up_n h1).trans (rfl)))
theorem mm_IA_I : sI ∈ [sI, sA] := .head _
theorem mm_IA_A : sA ∈ [sI, sA] := .tail _ (.head _)
theorem ox_take {σ : CS} {a x : Int32} : OX [sI, sA] (opTake σ a x) := by
  unfold opTake
  repeat' first
    | with_reducible exact ox_i
    | with_reducible exact ox_I mm_IA_I
    | with_reducible exact ox_A mm_IA_A
    | with_reducible refine ox_Sh mm_IA_I (fun _ => ?_)
    | with_reducible refine ox_Wk mm_IA_I (fun _ => ?_)
    | with_reducible refine ox_Rw mm_IA_I (fun _ => ?_)
    | with_reducible refine ox_Li mm_IA_I (fun _ => ?_)
    | with_reducible refine ox_if ?_ ?_
    | exact ox_i
    | exact ox_I mm_IA_I
    | exact ox_A mm_IA_A
    | refine ox_Sh mm_IA_I (fun _ => ?_)
    | refine ox_Wk mm_IA_I (fun _ => ?_)
    | refine ox_Rw mm_IA_I (fun _ => ?_)
    | refine ox_Li mm_IA_I (fun _ => ?_)
    | refine ox_if ?_ ?_
    | split
theorem L_take {h : AH} {d bc bs n N : Nat} {σ : CS} {a x : Int32} {w : Int64} {s : Value} (hR : RC h σ) (hT : TXT h) (hV : IV σ N) (hN : N < 2 ^ 31) (hO : h 158 = .inr (5, [.long w, s])) (hn : 159 ≤ n) (hd : 12 ≤ d) (h1 : 60 ≤ bc) (h2 : 400 ≤ bs) : SM SR0 ML_take d bc bs [.ref 100, .int a, .int x, .ref 158] h n (LPo h n (tc sI sA) (opTake σ a x)) := by
  refine sm_ofH pn_OverwalksLaw (by decide +kernel) (Nat.le_of_ble_eq_true rfl) ?_
  refine sw_aload_n (pc' := 1) rfl dL_take_0 rfl ?_
  refine sw_aload_n (pc' := 2) rfl dL_take_1 rfl ?_
  refine sw_iload_n (pc' := 3) rfl dL_take_2 rfl ?_
  refine sw_iload_n (pc' := 4) rfl dL_take_3 rfl ?_
  refine sw_V (M' := MX3_take) (d' := d - 1) (bc' := 20) (bs' := 200) (ci := 4) (as := [_, _]) dL_take_4 w_477 ok_X3_take (m_take hR (by omega) (Nat.le_refl _) (Nat.le_refl _) hV.2) hR.1 rfl (by omega) (Nat.le_of_ble_eq_true rfl) (by omega) (by omega) (cp_e ox_take (all2 (fun p pe pR pF => ?_) (fun p pe pR pF => ?_))) (cp_n ox_take (fun p v pe pR pF => ?_))
  · refine swx_catchW (E := "java/lang/IndexOutOfBoundsException") (pre := []) (suf := [(0, 11, 18, 21)]) (x := (0, 11, 14, 19)) (k0 := 4) (lv' := [(0, _), (1, _), (2, _), (3, _)]) rfl (pas0) (by decide +kernel) (by decide +kernel) w_395 v_325 dL_take_14 (by decide +kernel) rfl ?_
    refine sw_iconst (pc' := 17) (v := 1) rfl dL_take_16 (by decide +kernel) ?_
    refine sw_ret (v := some _) ⟨dL_take_17, _, rfl, rfl⟩ ?_
    exact lp_x pe tc_1 pR pF hO hn (Nat.le_refl _)
  · refine swx_catchW (E := "java/lang/IllegalArgumentException") (pre := [(0, 11, 14, 19)]) (suf := []) (x := (0, 11, 18, 21)) (k0 := 4) (lv' := [(0, _), (1, _), (2, _), (3, _)]) rfl (pas1 ⟨by decide +kernel, _, w_395, .tail _ (.tail _ (.head _))⟩) (by decide +kernel) (by decide +kernel) w_396 v_249 dL_take_18 (by decide +kernel) rfl ?_
    refine sw_iconst (pc' := 21) (v := 2) rfl dL_take_20 (by decide +kernel) ?_
    refine sw_ret (v := some _) ⟨dL_take_21, _, rfl, rfl⟩ ?_
    exact lp_x pe (tc_2 sAI) pR pF hO hn (Nat.le_refl _)
  refine sw_i2l (pc' := 8) rfl dL_take_7 ?_
  refine sw_putN (ci := 5) (k := 0) (pc' := 11) rfl dL_take_8 (by decide +kernel) (by decide +kernel) v_347 rfl ((pF 158 (by omega) (by omega)).trans hO) (by show 100 ≤ _; omega) (Nat.le_of_ble_eq_true rfl) rfl rfl ?_
  refine sw_nm (fun g1 eg1 => ?_)
  have zg1 := (congrFun eg1 158).trans (up_s (h := p) (i := 158))
  refine sw_goto (tgt := 22) dL_take_11 (by decide +kernel) ?_
  refine sw_iconst (pc' := 23) (v := 0) rfl dL_take_22 (by decide +kernel) ?_
  refine sw_ret (v := some _) ⟨dL_take_23, _, rfl, rfl⟩ ?_
  exact lp_v pe pR pF zg1 rfl (fun i h1 => (congrFun eg1 i).trans ((up_n h1).trans (rfl)))
theorem mm_I_I : sI ∈ [sI] := .head _
theorem ox_clear {σ : CS} {a : Int32} : OX [sI] (opClear σ a) := by
  unfold opClear
  repeat' first
    | with_reducible exact ox_i
    | with_reducible exact ox_I mm_I_I
    | with_reducible refine ox_Sh mm_I_I (fun _ => ?_)
    | with_reducible refine ox_Wk mm_I_I (fun _ => ?_)
    | with_reducible refine ox_Rw mm_I_I (fun _ => ?_)
    | with_reducible refine ox_Li mm_I_I (fun _ => ?_)
    | with_reducible refine ox_if ?_ ?_
    | exact ox_i
    | exact ox_I mm_I_I
    | refine ox_Sh mm_I_I (fun _ => ?_)
    | refine ox_Wk mm_I_I (fun _ => ?_)
    | refine ox_Rw mm_I_I (fun _ => ?_)
    | refine ox_Li mm_I_I (fun _ => ?_)
    | refine ox_if ?_ ?_
    | split
theorem L_clear {h : AH} {d bc bs n N : Nat} {σ : CS} {a : Int32} {w : Int64} {s : Value} (hR : RC h σ) (hT : TXT h) (hV : IV σ N) (hN : N < 2 ^ 31) (hO : h 158 = .inr (5, [.long w, s])) (hn : 159 ≤ n) (hd : 12 ≤ d) (h1 : 60 ≤ bc) (h2 : 400 ≤ bs) : SM SR0 ML_clear d bc bs [.ref 100, .int a, .ref 158] h n (LPo h n (tc sI sI) (opClear σ a)) := by
  refine sm_ofH pn_OverwalksLaw (by decide +kernel) (Nat.le_of_ble_eq_true rfl) ?_
  refine sw_aload_n (pc' := 1) rfl dL_clear_0 rfl ?_
  refine sw_aload_n (pc' := 2) rfl dL_clear_1 rfl ?_
  refine sw_iload_n (pc' := 3) rfl dL_clear_2 rfl ?_
  refine sw_V (M' := MX3_clear) (d' := d - 1) (bc' := 20) (bs' := 200) (ci := 4) (as := [_]) dL_clear_3 w_493 ok_X3_clear (m_clear hR (by omega) (Nat.le_refl _) (Nat.le_refl _)) hR.1 rfl (by omega) (Nat.le_of_ble_eq_true rfl) (by omega) (by omega) (cp_e ox_clear (all1 (fun p pe pR pF => ?_))) (cp_n ox_clear (fun p v pe pR pF => ?_))
  · refine swx_catch (E := "java/lang/IndexOutOfBoundsException") (pre := []) (suf := []) (x := (0, 10, 13, 19)) (k0 := 3) (lv' := [(0, _), (1, _), (2, _)]) rfl (pas0) (by decide +kernel) (by decide +kernel) w_395 v_325 dL_clear_13 (by decide +kernel) rfl ?_
    refine sw_iconst (pc' := 15) (v := 1) rfl dL_clear_14 (by decide +kernel) ?_
    refine sw_ret (v := some _) ⟨dL_clear_15, _, rfl, rfl⟩ ?_
    exact lp_x pe tc_1 pR pF hO hn (Nat.le_refl _)
  refine sw_i2l (pc' := 7) rfl dL_clear_6 ?_
  refine sw_putN (ci := 5) (k := 0) (pc' := 10) rfl dL_clear_7 (by decide +kernel) (by decide +kernel) v_347 rfl ((pF 158 (by omega) (by omega)).trans hO) (by show 100 ≤ _; omega) (Nat.le_of_ble_eq_true rfl) rfl rfl ?_
  refine sw_nm (fun g1 eg1 => ?_)
  have zg1 := (congrFun eg1 158).trans (up_s (h := p) (i := 158))
  refine sw_goto (tgt := 16) dL_clear_10 (by decide +kernel) ?_
  refine sw_iconst (pc' := 17) (v := 0) rfl dL_clear_16 (by decide +kernel) ?_
  refine sw_ret (v := some _) ⟨dL_clear_17, _, rfl, rfl⟩ ?_
  exact lp_v pe pR pF zg1 rfl (fun i h1 => (congrFun eg1 i).trans ((up_n h1).trans (rfl)))
theorem mm_AS_A : sA ∈ [sA, sS] := .head _
theorem mm_AS_S : sS ∈ [sA, sS] := .tail _ (.head _)
theorem ox_pair {σ : CS} {x y : Int32} : OX [sA, sS] (opPair σ x y) := by
  unfold opPair
  repeat' first
    | with_reducible exact ox_i
    | with_reducible exact ox_A mm_AS_A
    | with_reducible exact ox_S mm_AS_S
    | with_reducible refine ox_if ?_ ?_
    | exact ox_i
    | exact ox_A mm_AS_A
    | exact ox_S mm_AS_S
    | refine ox_if ?_ ?_
    | split
theorem L_pair {h : AH} {d bc bs n N : Nat} {σ : CS} {x y : Int32} {w : Int64} {s : Value} (hR : RC h σ) (hT : TXT h) (hV : IV σ N) (hN : N < 2 ^ 31) (hO : h 158 = .inr (5, [.long w, s])) (hn : 159 ≤ n) (hd : 12 ≤ d) (h1 : 60 ≤ bc) (h2 : 400 ≤ bs) : SM SR0 ML_pair d bc bs [.ref 100, .int x, .int y, .ref 158] h n (LPo h n (tc sA sS) (opPair σ x y)) := by
  refine sm_ofH pn_OverwalksLaw (by decide +kernel) (Nat.le_of_ble_eq_true rfl) ?_
  refine sw_aload_n (pc' := 1) rfl dL_pair_0 rfl ?_
  refine sw_aload_n (pc' := 2) rfl dL_pair_1 rfl ?_
  refine sw_iload_n (pc' := 3) rfl dL_pair_2 rfl ?_
  refine sw_iload_n (pc' := 4) rfl dL_pair_3 rfl ?_
  refine sw_V (M' := MX3_pair) (d' := d - 1) (bc' := 20) (bs' := 200) (ci := 4) (as := [_, _]) dL_pair_4 w_504 ok_X3_pair (m_pair hR (by omega) (Nat.le_refl _) (Nat.le_refl _) hV.2) hR.1 rfl (by omega) (Nat.le_of_ble_eq_true rfl) (by omega) (by omega) (cp_e ox_pair (all2 (fun p pe pR pF => ?_) (fun p pe pR pF => ?_))) (cp_n ox_pair (fun p v pe pR pF => ?_))
  · refine swx_catchW (E := "java/lang/IllegalArgumentException") (pre := []) (suf := [(0, 11, 18, 23)]) (x := (0, 11, 14, 21)) (k0 := 4) (lv' := [(0, _), (1, _), (2, _), (3, _)]) rfl (pas0) (by decide +kernel) (by decide +kernel) w_396 v_249 dL_pair_14 (by decide +kernel) rfl ?_
    refine sw_iconst (pc' := 17) (v := 1) rfl dL_pair_16 (by decide +kernel) ?_
    refine sw_ret (v := some _) ⟨dL_pair_17, _, rfl, rfl⟩ ?_
    exact lp_x pe tc_1 pR pF hO hn (Nat.le_refl _)
  · refine swx_catchW (E := "java/lang/IllegalStateException") (pre := [(0, 11, 14, 21)]) (suf := []) (x := (0, 11, 18, 23)) (k0 := 4) (lv' := [(0, _), (1, _), (2, _), (3, _)]) rfl (pas1 ⟨by decide +kernel, _, w_396, .tail _ (.tail _ (.tail _ (.tail _ (.tail _ (.head _)))))⟩) (by decide +kernel) (by decide +kernel) w_397 v_378 dL_pair_18 (by decide +kernel) rfl ?_
    refine sw_iconst (pc' := 21) (v := 2) rfl dL_pair_20 (by decide +kernel) ?_
    refine sw_ret (v := some _) ⟨dL_pair_21, _, rfl, rfl⟩ ?_
    exact lp_x pe (tc_2 sSA) pR pF hO hn (Nat.le_refl _)
  refine sw_i2l (pc' := 8) rfl dL_pair_7 ?_
  refine sw_putN (ci := 5) (k := 0) (pc' := 11) rfl dL_pair_8 (by decide +kernel) (by decide +kernel) v_347 rfl ((pF 158 (by omega) (by omega)).trans hO) (by show 100 ≤ _; omega) (Nat.le_of_ble_eq_true rfl) rfl rfl ?_
  refine sw_nm (fun g1 eg1 => ?_)
  have zg1 := (congrFun eg1 158).trans (up_s (h := p) (i := 158))
  refine sw_goto (tgt := 22) dL_pair_11 (by decide +kernel) ?_
  refine sw_iconst (pc' := 23) (v := 0) rfl dL_pair_22 (by decide +kernel) ?_
  refine sw_ret (v := some _) ⟨dL_pair_23, _, rfl, rfl⟩ ?_
  exact lp_v pe pR pF zg1 rfl (fun i h1 => (congrFun eg1 i).trans ((up_n h1).trans (rfl)))
theorem mm_IS_I : sI ∈ [sI, sS] := .head _
theorem mm_IS_S : sS ∈ [sI, sS] := .tail _ (.head _)
theorem ox_pour {σ : CS} {a x : Int32} : OX [sI, sS] (opPour σ a x) := by
  unfold opPour
  repeat' first
    | with_reducible exact ox_i
    | with_reducible exact ox_I mm_IS_I
    | with_reducible exact ox_S mm_IS_S
    | with_reducible refine ox_Sh mm_IS_I (fun _ => ?_)
    | with_reducible refine ox_Wk mm_IS_I (fun _ => ?_)
    | with_reducible refine ox_Rw mm_IS_I (fun _ => ?_)
    | with_reducible refine ox_Li mm_IS_I (fun _ => ?_)
    | with_reducible refine ox_if ?_ ?_
    | exact ox_i
    | exact ox_I mm_IS_I
    | exact ox_S mm_IS_S
    | refine ox_Sh mm_IS_I (fun _ => ?_)
    | refine ox_Wk mm_IS_I (fun _ => ?_)
    | refine ox_Rw mm_IS_I (fun _ => ?_)
    | refine ox_Li mm_IS_I (fun _ => ?_)
    | refine ox_if ?_ ?_
    | split
theorem L_pour {h : AH} {d bc bs n N : Nat} {σ : CS} {a x : Int32} {w : Int64} {s : Value} (hR : RC h σ) (hT : TXT h) (hV : IV σ N) (hN : N < 2 ^ 31) (hO : h 158 = .inr (5, [.long w, s])) (hn : 159 ≤ n) (hd : 12 ≤ d) (h1 : 60 ≤ bc) (h2 : 400 ≤ bs) : SM SR0 ML_pour d bc bs [.ref 100, .int a, .int x, .ref 158] h n (LPo h n (tc sI sS) (opPour σ a x)) := by
  refine sm_ofH pn_OverwalksLaw (by decide +kernel) (Nat.le_of_ble_eq_true rfl) ?_
  refine sw_aload_n (pc' := 1) rfl dL_pour_0 rfl ?_
  refine sw_aload_n (pc' := 2) rfl dL_pour_1 rfl ?_
  refine sw_iload_n (pc' := 3) rfl dL_pour_2 rfl ?_
  refine sw_iload_n (pc' := 4) rfl dL_pour_3 rfl ?_
  refine sw_V (M' := MX3_pour) (d' := d - 1) (bc' := 20) (bs' := 200) (ci := 4) (as := [_, _]) dL_pour_4 w_520 ok_X3_pour (m_pour hR (by omega) (Nat.le_refl _) (Nat.le_refl _)) hR.1 rfl (by omega) (Nat.le_of_ble_eq_true rfl) (by omega) (by omega) (cp_e ox_pour (all2 (fun p pe pR pF => ?_) (fun p pe pR pF => ?_))) (cp_n ox_pour (fun p v pe pR pF => ?_))
  · refine swx_catchW (E := "java/lang/IndexOutOfBoundsException") (pre := []) (suf := [(0, 11, 18, 23)]) (x := (0, 11, 14, 19)) (k0 := 4) (lv' := [(0, _), (1, _), (2, _), (3, _)]) rfl (pas0) (by decide +kernel) (by decide +kernel) w_395 v_325 dL_pour_14 (by decide +kernel) rfl ?_
    refine sw_iconst (pc' := 17) (v := 1) rfl dL_pour_16 (by decide +kernel) ?_
    refine sw_ret (v := some _) ⟨dL_pour_17, _, rfl, rfl⟩ ?_
    exact lp_x pe tc_1 pR pF hO hn (Nat.le_refl _)
  · refine swx_catchW (E := "java/lang/IllegalStateException") (pre := [(0, 11, 14, 19)]) (suf := []) (x := (0, 11, 18, 23)) (k0 := 4) (lv' := [(0, _), (1, _), (2, _), (3, _)]) rfl (pas1 ⟨by decide +kernel, _, w_395, .tail _ (.tail _ (.tail _ (.tail _ (.head _))))⟩) (by decide +kernel) (by decide +kernel) w_397 v_378 dL_pour_18 (by decide +kernel) rfl ?_
    refine sw_iconst (pc' := 21) (v := 2) rfl dL_pour_20 (by decide +kernel) ?_
    refine sw_ret (v := some _) ⟨dL_pour_21, _, rfl, rfl⟩ ?_
    exact lp_x pe (tc_2 sSI) pR pF hO hn (Nat.le_refl _)
  refine sw_i2l (pc' := 8) rfl dL_pour_7 ?_
  refine sw_putN (ci := 5) (k := 0) (pc' := 11) rfl dL_pour_8 (by decide +kernel) (by decide +kernel) v_347 rfl ((pF 158 (by omega) (by omega)).trans hO) (by show 100 ≤ _; omega) (Nat.le_of_ble_eq_true rfl) rfl rfl ?_
  refine sw_nm (fun g1 eg1 => ?_)
  have zg1 := (congrFun eg1 158).trans (up_s (h := p) (i := 158))
  refine sw_goto (tgt := 22) dL_pour_11 (by decide +kernel) ?_
  refine sw_iconst (pc' := 23) (v := 0) rfl dL_pour_22 (by decide +kernel) ?_
  refine sw_ret (v := some _) ⟨dL_pour_23, _, rfl, rfl⟩ ?_
  exact lp_v pe pR pF zg1 rfl (fun i h1 => (congrFun eg1 i).trans ((up_n h1).trans (rfl)))
theorem ox_change {σ : CS} {a x y : Int32} : OX [sI, sA] (opChange σ a x y) := by
  unfold opChange
  repeat' first
    | with_reducible exact ox_i
    | with_reducible exact ox_I mm_IA_I
    | with_reducible exact ox_A mm_IA_A
    | with_reducible refine ox_Sh mm_IA_I (fun _ => ?_)
    | with_reducible refine ox_Wk mm_IA_I (fun _ => ?_)
    | with_reducible refine ox_Rw mm_IA_I (fun _ => ?_)
    | with_reducible refine ox_Li mm_IA_I (fun _ => ?_)
    | with_reducible refine ox_if ?_ ?_
    | exact ox_i
    | exact ox_I mm_IA_I
    | exact ox_A mm_IA_A
    | refine ox_Sh mm_IA_I (fun _ => ?_)
    | refine ox_Wk mm_IA_I (fun _ => ?_)
    | refine ox_Rw mm_IA_I (fun _ => ?_)
    | refine ox_Li mm_IA_I (fun _ => ?_)
    | refine ox_if ?_ ?_
    | split
theorem L_change {h : AH} {d bc bs n N : Nat} {σ : CS} {a x y : Int32} {w : Int64} {s : Value} (hR : RC h σ) (hT : TXT h) (hV : IV σ N) (hN : N < 2 ^ 31) (hO : h 158 = .inr (5, [.long w, s])) (hn : 159 ≤ n) (hd : 12 ≤ d) (h1 : 60 ≤ bc) (h2 : 400 ≤ bs) : SM SR0 ML_change d bc bs [.ref 100, .int a, .int x, .int y, .ref 158] h n (LPo h n (tc sI sA) (opChange σ a x y)) := by
  refine sm_ofH pn_OverwalksLaw (by decide +kernel) (Nat.le_of_ble_eq_true rfl) ?_
  refine sw_aload (pc' := 2) rfl dL_change_0 rfl ?_
  refine sw_aload_n (pc' := 3) rfl dL_change_2 rfl ?_
  refine sw_iload_n (pc' := 4) rfl dL_change_3 rfl ?_
  refine sw_iload_n (pc' := 5) rfl dL_change_4 rfl ?_
  refine sw_iload_n (pc' := 6) rfl dL_change_5 rfl ?_
  refine sw_V (M' := MX3_change) (d' := d - 1) (bc' := 20) (bs' := 200) (ci := 4) (as := [_, _, _]) dL_change_6 w_537 ok_X3_change (m_change hR (by omega) (Nat.le_refl _) (Nat.le_refl _)) hR.1 rfl (by omega) (Nat.le_of_ble_eq_true rfl) (by omega) (by omega) (cp_e ox_change (all2 (fun p pe pR pF => ?_) (fun p pe pR pF => ?_))) (cp_n ox_change (fun p v pe pR pF => ?_))
  · refine swx_catchW (E := "java/lang/IndexOutOfBoundsException") (pre := []) (suf := [(0, 13, 20, 21)]) (x := (0, 13, 16, 19)) (k0 := 5) (lv' := [(0, _), (1, _), (2, _), (3, _), (4, _)]) rfl (pas0) (by decide +kernel) (by decide +kernel) w_395 v_325 dL_change_16 (by decide +kernel) rfl ?_
    refine sw_iconst (pc' := 19) (v := 1) rfl dL_change_18 (by decide +kernel) ?_
    refine sw_ret (v := some _) ⟨dL_change_19, _, rfl, rfl⟩ ?_
    exact lp_x pe tc_1 pR pF hO hn (Nat.le_refl _)
  · refine swx_catchW (E := "java/lang/IllegalArgumentException") (pre := [(0, 13, 16, 19)]) (suf := []) (x := (0, 13, 20, 21)) (k0 := 5) (lv' := [(0, _), (1, _), (2, _), (3, _), (4, _)]) rfl (pas1 ⟨by decide +kernel, _, w_395, .tail _ (.tail _ (.head _))⟩) (by decide +kernel) (by decide +kernel) w_396 v_249 dL_change_20 (by decide +kernel) rfl ?_
    refine sw_iconst (pc' := 23) (v := 2) rfl dL_change_22 (by decide +kernel) ?_
    refine sw_ret (v := some _) ⟨dL_change_23, _, rfl, rfl⟩ ?_
    exact lp_x pe (tc_2 sAI) pR pF hO hn (Nat.le_refl _)
  refine sw_i2l (pc' := 10) rfl dL_change_9 ?_
  refine sw_putN (ci := 5) (k := 0) (pc' := 13) rfl dL_change_10 (by decide +kernel) (by decide +kernel) v_347 rfl ((pF 158 (by omega) (by omega)).trans hO) (by show 100 ≤ _; omega) (Nat.le_of_ble_eq_true rfl) rfl rfl ?_
  refine sw_nm (fun g1 eg1 => ?_)
  have zg1 := (congrFun eg1 158).trans (up_s (h := p) (i := 158))
  refine sw_goto (tgt := 24) dL_change_13 (by decide +kernel) ?_
  refine sw_iconst (pc' := 25) (v := 0) rfl dL_change_24 (by decide +kernel) ?_
  refine sw_ret (v := some _) ⟨dL_change_25, _, rfl, rfl⟩ ?_
  exact lp_v pe pR pF zg1 rfl (fun i h1 => (congrFun eg1 i).trans ((up_n h1).trans (rfl)))
theorem ox_insert {σ : CS} {a x y : Int32} : OX [sI, sA, sS] (opInsert σ a x y) := by
  unfold opInsert
  repeat' first
    | with_reducible exact ox_i
    | with_reducible exact ox_I mm_IAS_I
    | with_reducible exact ox_A mm_IAS_A
    | with_reducible exact ox_S mm_IAS_S
    | with_reducible refine ox_Sh mm_IAS_I (fun _ => ?_)
    | with_reducible refine ox_Wk mm_IAS_I (fun _ => ?_)
    | with_reducible refine ox_Rw mm_IAS_I (fun _ => ?_)
    | with_reducible refine ox_Li mm_IAS_I (fun _ => ?_)
    | with_reducible refine ox_if ?_ ?_
    | exact ox_i
    | exact ox_I mm_IAS_I
    | exact ox_A mm_IAS_A
    | exact ox_S mm_IAS_S
    | refine ox_Sh mm_IAS_I (fun _ => ?_)
    | refine ox_Wk mm_IAS_I (fun _ => ?_)
    | refine ox_Rw mm_IAS_I (fun _ => ?_)
    | refine ox_Li mm_IAS_I (fun _ => ?_)
    | refine ox_if ?_ ?_
    | split
theorem L_insert {h : AH} {d bc bs n N : Nat} {σ : CS} {a x y : Int32} {w : Int64} {s : Value} (hR : RC h σ) (hT : TXT h) (hV : IV σ N) (hN : N < 2 ^ 31) (hO : h 158 = .inr (5, [.long w, s])) (hn : 159 ≤ n) (hd : 12 ≤ d) (h1 : 60 ≤ bc) (h2 : 400 ≤ bs) : SM SR0 ML_insert d bc bs [.ref 100, .int a, .int x, .int y, .ref 158] h n (LPo h n (tc sI sA) (opInsert σ a x y)) := by
  refine sm_ofH pn_OverwalksLaw (by decide +kernel) (Nat.le_of_ble_eq_true rfl) ?_
  refine sw_aload (pc' := 2) rfl dL_insert_0 rfl ?_
  refine sw_aload_n (pc' := 3) rfl dL_insert_2 rfl ?_
  refine sw_iload_n (pc' := 4) rfl dL_insert_3 rfl ?_
  refine sw_iload_n (pc' := 5) rfl dL_insert_4 rfl ?_
  refine sw_iload_n (pc' := 6) rfl dL_insert_5 rfl ?_
  refine sw_V (M' := MX3_insert) (d' := d - 1) (bc' := 20) (bs' := 200) (ci := 4) (as := [_, _, _]) dL_insert_6 w_553 ok_X3_insert (m_insert hR (by omega) (Nat.le_refl _) (Nat.le_refl _)) hR.1 rfl (by omega) (Nat.le_of_ble_eq_true rfl) (by omega) (by omega) (cp_e ox_insert (all3 (fun p pe pR pF => ?_) (fun p pe pR pF => ?_) (fun p pe pR pF => ?_))) (cp_n ox_insert (fun p v pe pR pF => ?_))
  · refine swx_catchW (E := "java/lang/IndexOutOfBoundsException") (pre := []) (suf := [(0, 13, 20, 21), (0, 13, 24, 23)]) (x := (0, 13, 16, 19)) (k0 := 5) (lv' := [(0, _), (1, _), (2, _), (3, _), (4, _)]) rfl (pas0) (by decide +kernel) (by decide +kernel) w_395 v_325 dL_insert_16 (by decide +kernel) rfl ?_
    refine sw_iconst (pc' := 19) (v := 1) rfl dL_insert_18 (by decide +kernel) ?_
    refine sw_ret (v := some _) ⟨dL_insert_19, _, rfl, rfl⟩ ?_
    exact lp_x pe tc_1 pR pF hO hn (Nat.le_refl _)
  · refine swx_catchW (E := "java/lang/IllegalArgumentException") (pre := [(0, 13, 16, 19)]) (suf := [(0, 13, 24, 23)]) (x := (0, 13, 20, 21)) (k0 := 5) (lv' := [(0, _), (1, _), (2, _), (3, _), (4, _)]) rfl (pas1 ⟨by decide +kernel, _, w_395, .tail _ (.tail _ (.head _))⟩) (by decide +kernel) (by decide +kernel) w_396 v_249 dL_insert_20 (by decide +kernel) rfl ?_
    refine sw_iconst (pc' := 23) (v := 2) rfl dL_insert_22 (by decide +kernel) ?_
    refine sw_ret (v := some _) ⟨dL_insert_23, _, rfl, rfl⟩ ?_
    exact lp_x pe (tc_2 sAI) pR pF hO hn (Nat.le_refl _)
  · refine swx_catchW (E := "java/lang/IllegalStateException") (pre := [(0, 13, 16, 19), (0, 13, 20, 21)]) (suf := []) (x := (0, 13, 24, 23)) (k0 := 5) (lv' := [(0, _), (1, _), (2, _), (3, _), (4, _)]) rfl (pas2 ⟨by decide +kernel, _, w_395, .tail _ (.tail _ (.tail _ (.tail _ (.head _))))⟩ ⟨by decide +kernel, _, w_396, .tail _ (.tail _ (.tail _ (.tail _ (.tail _ (.head _)))))⟩) (by decide +kernel) (by decide +kernel) w_397 v_378 dL_insert_24 (by decide +kernel) rfl ?_
    refine sw_iconst (pc' := 27) (v := 3) rfl dL_insert_26 (by decide +kernel) ?_
    refine sw_ret (v := some _) ⟨dL_insert_27, _, rfl, rfl⟩ ?_
    exact lp_x pe (tc_3 sSI sSA) pR pF hO hn (Nat.le_refl _)
  refine sw_i2l (pc' := 10) rfl dL_insert_9 ?_
  refine sw_putN (ci := 5) (k := 0) (pc' := 13) rfl dL_insert_10 (by decide +kernel) (by decide +kernel) v_347 rfl ((pF 158 (by omega) (by omega)).trans hO) (by show 100 ≤ _; omega) (Nat.le_of_ble_eq_true rfl) rfl rfl ?_
  refine sw_nm (fun g1 eg1 => ?_)
  have zg1 := (congrFun eg1 158).trans (up_s (h := p) (i := 158))
  refine sw_goto (tgt := 28) dL_insert_13 (by decide +kernel) ?_
  refine sw_iconst (pc' := 29) (v := 0) rfl dL_insert_28 (by decide +kernel) ?_
  refine sw_ret (v := some _) ⟨dL_insert_29, _, rfl, rfl⟩ ?_
  exact lp_v pe pR pF zg1 rfl (fun i h1 => (congrFun eg1 i).trans ((up_n h1).trans (rfl)))
theorem ox_remove {σ : CS} {a x : Int32} : OX [sI] (opRemove σ a x) := by
  unfold opRemove
  repeat' first
    | with_reducible exact ox_i
    | with_reducible exact ox_I mm_I_I
    | with_reducible refine ox_Sh mm_I_I (fun _ => ?_)
    | with_reducible refine ox_Wk mm_I_I (fun _ => ?_)
    | with_reducible refine ox_Rw mm_I_I (fun _ => ?_)
    | with_reducible refine ox_Li mm_I_I (fun _ => ?_)
    | with_reducible refine ox_if ?_ ?_
    | exact ox_i
    | exact ox_I mm_I_I
    | refine ox_Sh mm_I_I (fun _ => ?_)
    | refine ox_Wk mm_I_I (fun _ => ?_)
    | refine ox_Rw mm_I_I (fun _ => ?_)
    | refine ox_Li mm_I_I (fun _ => ?_)
    | refine ox_if ?_ ?_
    | split
theorem L_remove {h : AH} {d bc bs n N : Nat} {σ : CS} {a x : Int32} {w : Int64} {s : Value} (hR : RC h σ) (hT : TXT h) (hV : IV σ N) (hN : N < 2 ^ 31) (hO : h 158 = .inr (5, [.long w, s])) (hn : 159 ≤ n) (hd : 12 ≤ d) (h1 : 60 ≤ bc) (h2 : 400 ≤ bs) : SM SR0 ML_remove d bc bs [.ref 100, .int a, .int x, .ref 158] h n (LPo h n (tc sI sI) (opRemove σ a x)) := by
  refine sm_ofH pn_OverwalksLaw (by decide +kernel) (Nat.le_of_ble_eq_true rfl) ?_
  refine sw_aload_n (pc' := 1) rfl dL_remove_0 rfl ?_
  refine sw_aload_n (pc' := 2) rfl dL_remove_1 rfl ?_
  refine sw_iload_n (pc' := 3) rfl dL_remove_2 rfl ?_
  refine sw_iload_n (pc' := 4) rfl dL_remove_3 rfl ?_
  refine sw_V (M' := MX3_remove) (d' := d - 1) (bc' := 20) (bs' := 200) (ci := 4) (as := [_, _]) dL_remove_4 w_560 ok_X3_remove (m_remove hR (by omega) (Nat.le_refl _) (Nat.le_refl _)) hR.1 rfl (by omega) (Nat.le_of_ble_eq_true rfl) (by omega) (by omega) (cp_e ox_remove (all1 (fun p pe pR pF => ?_))) (cp_n ox_remove (fun p v pe pR pF => ?_))
  · refine swx_catchW (E := "java/lang/IndexOutOfBoundsException") (pre := []) (suf := []) (x := (0, 11, 14, 19)) (k0 := 4) (lv' := [(0, _), (1, _), (2, _), (3, _)]) rfl (pas0) (by decide +kernel) (by decide +kernel) w_395 v_325 dL_remove_14 (by decide +kernel) rfl ?_
    refine sw_iconst (pc' := 17) (v := 1) rfl dL_remove_16 (by decide +kernel) ?_
    refine sw_ret (v := some _) ⟨dL_remove_17, _, rfl, rfl⟩ ?_
    exact lp_x pe tc_1 pR pF hO hn (Nat.le_refl _)
  refine sw_i2l (pc' := 8) rfl dL_remove_7 ?_
  refine sw_putN (ci := 5) (k := 0) (pc' := 11) rfl dL_remove_8 (by decide +kernel) (by decide +kernel) v_347 rfl ((pF 158 (by omega) (by omega)).trans hO) (by show 100 ≤ _; omega) (Nat.le_of_ble_eq_true rfl) rfl rfl ?_
  refine sw_nm (fun g1 eg1 => ?_)
  have zg1 := (congrFun eg1 158).trans (up_s (h := p) (i := 158))
  refine sw_goto (tgt := 18) dL_remove_11 (by decide +kernel) ?_
  refine sw_iconst (pc' := 19) (v := 0) rfl dL_remove_18 (by decide +kernel) ?_
  refine sw_ret (v := some _) ⟨dL_remove_19, _, rfl, rfl⟩ ?_
  exact lp_v pe pR pF zg1 rfl (fun i h1 => (congrFun eg1 i).trans ((up_n h1).trans (rfl)))
theorem ox_turn {σ : CS} {a : Int32} : OX [sI] (opTurn σ a) := by
  unfold opTurn
  repeat' first
    | with_reducible exact ox_i
    | with_reducible exact ox_I mm_I_I
    | with_reducible refine ox_Sh mm_I_I (fun _ => ?_)
    | with_reducible refine ox_Wk mm_I_I (fun _ => ?_)
    | with_reducible refine ox_Rw mm_I_I (fun _ => ?_)
    | with_reducible refine ox_Li mm_I_I (fun _ => ?_)
    | with_reducible refine ox_if ?_ ?_
    | exact ox_i
    | exact ox_I mm_I_I
    | refine ox_Sh mm_I_I (fun _ => ?_)
    | refine ox_Wk mm_I_I (fun _ => ?_)
    | refine ox_Rw mm_I_I (fun _ => ?_)
    | refine ox_Li mm_I_I (fun _ => ?_)
    | refine ox_if ?_ ?_
    | split
theorem L_turn {h : AH} {d bc bs n N : Nat} {σ : CS} {a : Int32} {w : Int64} {s : Value} (hR : RC h σ) (hT : TXT h) (hV : IV σ N) (hN : N < 2 ^ 31) (hO : h 158 = .inr (5, [.long w, s])) (hn : 159 ≤ n) (hd : 12 ≤ d) (h1 : 60 ≤ bc) (h2 : 400 ≤ bs) : SM SR0 ML_turn d bc bs [.ref 100, .int a, .ref 158] h n (LPo h n (tc sI sI) (opTurn σ a)) := by
  refine sm_ofH pn_OverwalksLaw (by decide +kernel) (Nat.le_of_ble_eq_true rfl) ?_
  refine sw_aload_n (pc' := 1) rfl dL_turn_0 rfl ?_
  refine sw_aload_n (pc' := 2) rfl dL_turn_1 rfl ?_
  refine sw_iload_n (pc' := 3) rfl dL_turn_2 rfl ?_
  refine sw_V (M' := MX3_turn) (d' := d - 1) (bc' := 20) (bs' := 200) (ci := 4) (as := [_]) dL_turn_3 w_567 ok_X3_turn (m_turn hR (by omega) (Nat.le_refl _) (Nat.le_refl _)) hR.1 rfl (by omega) (Nat.le_of_ble_eq_true rfl) (by omega) (by omega) (cp_e ox_turn (all1 (fun p pe pR pF => ?_))) (cp_n ox_turn (fun p v pe pR pF => ?_))
  · refine swx_catch (E := "java/lang/IndexOutOfBoundsException") (pre := []) (suf := []) (x := (0, 10, 13, 19)) (k0 := 3) (lv' := [(0, _), (1, _), (2, _)]) rfl (pas0) (by decide +kernel) (by decide +kernel) w_395 v_325 dL_turn_13 (by decide +kernel) rfl ?_
    refine sw_iconst (pc' := 15) (v := 1) rfl dL_turn_14 (by decide +kernel) ?_
    refine sw_ret (v := some _) ⟨dL_turn_15, _, rfl, rfl⟩ ?_
    exact lp_x pe tc_1 pR pF hO hn (Nat.le_refl _)
  refine sw_i2l (pc' := 7) rfl dL_turn_6 ?_
  refine sw_putN (ci := 5) (k := 0) (pc' := 10) rfl dL_turn_7 (by decide +kernel) (by decide +kernel) v_347 rfl ((pF 158 (by omega) (by omega)).trans hO) (by show 100 ≤ _; omega) (Nat.le_of_ble_eq_true rfl) rfl rfl ?_
  refine sw_nm (fun g1 eg1 => ?_)
  have zg1 := (congrFun eg1 158).trans (up_s (h := p) (i := 158))
  refine sw_goto (tgt := 16) dL_turn_10 (by decide +kernel) ?_
  refine sw_iconst (pc' := 17) (v := 0) rfl dL_turn_16 (by decide +kernel) ?_
  refine sw_ret (v := some _) ⟨dL_turn_17, _, rfl, rfl⟩ ?_
  exact lp_v pe pR pF zg1 rfl (fun i h1 => (congrFun eg1 i).trans ((up_n h1).trans (rfl)))
theorem ox_rotate {σ : CS} {a x : Int32} : OX [sI, sA] (opRotate σ a x) := by
  unfold opRotate
  repeat' first
    | with_reducible exact ox_i
    | with_reducible exact ox_I mm_IA_I
    | with_reducible exact ox_A mm_IA_A
    | with_reducible refine ox_Sh mm_IA_I (fun _ => ?_)
    | with_reducible refine ox_Wk mm_IA_I (fun _ => ?_)
    | with_reducible refine ox_Rw mm_IA_I (fun _ => ?_)
    | with_reducible refine ox_Li mm_IA_I (fun _ => ?_)
    | with_reducible refine ox_if ?_ ?_
    | exact ox_i
    | exact ox_I mm_IA_I
    | exact ox_A mm_IA_A
    | refine ox_Sh mm_IA_I (fun _ => ?_)
    | refine ox_Wk mm_IA_I (fun _ => ?_)
    | refine ox_Rw mm_IA_I (fun _ => ?_)
    | refine ox_Li mm_IA_I (fun _ => ?_)
    | refine ox_if ?_ ?_
    | split
theorem L_rotate {h : AH} {d bc bs n N : Nat} {σ : CS} {a x : Int32} {w : Int64} {s : Value} (hR : RC h σ) (hT : TXT h) (hV : IV σ N) (hN : N < 2 ^ 31) (hO : h 158 = .inr (5, [.long w, s])) (hn : 159 ≤ n) (hd : 12 ≤ d) (h1 : 60 ≤ bc) (h2 : 400 ≤ bs) : SM SR0 ML_rotate d bc bs [.ref 100, .int a, .int x, .ref 158] h n (LPo h n (tc sI sA) (opRotate σ a x)) := by
  refine sm_ofH pn_OverwalksLaw (by decide +kernel) (Nat.le_of_ble_eq_true rfl) ?_
  refine sw_aload_n (pc' := 1) rfl dL_rotate_0 rfl ?_
  refine sw_aload_n (pc' := 2) rfl dL_rotate_1 rfl ?_
  refine sw_iload_n (pc' := 3) rfl dL_rotate_2 rfl ?_
  refine sw_iload_n (pc' := 4) rfl dL_rotate_3 rfl ?_
  refine sw_V (M' := MX3_rotate) (d' := d - 1) (bc' := 20) (bs' := 200) (ci := 4) (as := [_, _]) dL_rotate_4 w_579 ok_X3_rotate (m_rotate hR (by omega) (Nat.le_refl _) (Nat.le_refl _)) hR.1 rfl (by omega) (Nat.le_of_ble_eq_true rfl) (by omega) (by omega) (cp_e ox_rotate (all2 (fun p pe pR pF => ?_) (fun p pe pR pF => ?_))) (cp_n ox_rotate (fun p v pe pR pF => ?_))
  · refine swx_catchW (E := "java/lang/IndexOutOfBoundsException") (pre := []) (suf := [(0, 11, 18, 21)]) (x := (0, 11, 14, 19)) (k0 := 4) (lv' := [(0, _), (1, _), (2, _), (3, _)]) rfl (pas0) (by decide +kernel) (by decide +kernel) w_395 v_325 dL_rotate_14 (by decide +kernel) rfl ?_
    refine sw_iconst (pc' := 17) (v := 1) rfl dL_rotate_16 (by decide +kernel) ?_
    refine sw_ret (v := some _) ⟨dL_rotate_17, _, rfl, rfl⟩ ?_
    exact lp_x pe tc_1 pR pF hO hn (Nat.le_refl _)
  · refine swx_catchW (E := "java/lang/IllegalArgumentException") (pre := [(0, 11, 14, 19)]) (suf := []) (x := (0, 11, 18, 21)) (k0 := 4) (lv' := [(0, _), (1, _), (2, _), (3, _)]) rfl (pas1 ⟨by decide +kernel, _, w_395, .tail _ (.tail _ (.head _))⟩) (by decide +kernel) (by decide +kernel) w_396 v_249 dL_rotate_18 (by decide +kernel) rfl ?_
    refine sw_iconst (pc' := 21) (v := 2) rfl dL_rotate_20 (by decide +kernel) ?_
    refine sw_ret (v := some _) ⟨dL_rotate_21, _, rfl, rfl⟩ ?_
    exact lp_x pe (tc_2 sAI) pR pF hO hn (Nat.le_refl _)
  refine sw_i2l (pc' := 8) rfl dL_rotate_7 ?_
  refine sw_putN (ci := 5) (k := 0) (pc' := 11) rfl dL_rotate_8 (by decide +kernel) (by decide +kernel) v_347 rfl ((pF 158 (by omega) (by omega)).trans hO) (by show 100 ≤ _; omega) (Nat.le_of_ble_eq_true rfl) rfl rfl ?_
  refine sw_nm (fun g1 eg1 => ?_)
  have zg1 := (congrFun eg1 158).trans (up_s (h := p) (i := 158))
  refine sw_goto (tgt := 22) dL_rotate_11 (by decide +kernel) ?_
  refine sw_iconst (pc' := 23) (v := 0) rfl dL_rotate_22 (by decide +kernel) ?_
  refine sw_ret (v := some _) ⟨dL_rotate_23, _, rfl, rfl⟩ ?_
  exact lp_v pe pR pF zg1 rfl (fun i h1 => (congrFun eg1 i).trans ((up_n h1).trans (rfl)))
theorem ox_swap {σ : CS} {a x y : Int32} : OX [sI] (opSwap σ a x y) := by
  unfold opSwap
  repeat' first
    | with_reducible exact ox_i
    | with_reducible exact ox_I mm_I_I
    | with_reducible refine ox_Sh mm_I_I (fun _ => ?_)
    | with_reducible refine ox_Wk mm_I_I (fun _ => ?_)
    | with_reducible refine ox_Rw mm_I_I (fun _ => ?_)
    | with_reducible refine ox_Li mm_I_I (fun _ => ?_)
    | with_reducible refine ox_if ?_ ?_
    | exact ox_i
    | exact ox_I mm_I_I
    | refine ox_Sh mm_I_I (fun _ => ?_)
    | refine ox_Wk mm_I_I (fun _ => ?_)
    | refine ox_Rw mm_I_I (fun _ => ?_)
    | refine ox_Li mm_I_I (fun _ => ?_)
    | refine ox_if ?_ ?_
    | split
theorem L_swap {h : AH} {d bc bs n N : Nat} {σ : CS} {a x y : Int32} {w : Int64} {s : Value} (hR : RC h σ) (hT : TXT h) (hV : IV σ N) (hN : N < 2 ^ 31) (hO : h 158 = .inr (5, [.long w, s])) (hn : 159 ≤ n) (hd : 12 ≤ d) (h1 : 60 ≤ bc) (h2 : 400 ≤ bs) : SM SR0 ML_swap d bc bs [.ref 100, .int a, .int x, .int y, .ref 158] h n (LPo h n (tc sI sI) (opSwap σ a x y)) := by
  refine sm_ofH pn_OverwalksLaw (by decide +kernel) (Nat.le_of_ble_eq_true rfl) ?_
  refine sw_aload (pc' := 2) rfl dL_swap_0 rfl ?_
  refine sw_aload_n (pc' := 3) rfl dL_swap_2 rfl ?_
  refine sw_iload_n (pc' := 4) rfl dL_swap_3 rfl ?_
  refine sw_iload_n (pc' := 5) rfl dL_swap_4 rfl ?_
  refine sw_iload_n (pc' := 6) rfl dL_swap_5 rfl ?_
  refine sw_V (M' := MX3_swap) (d' := d - 1) (bc' := 20) (bs' := 200) (ci := 4) (as := [_, _, _]) dL_swap_6 w_595 ok_X3_swap (m_swap hR (by omega) (Nat.le_refl _) (Nat.le_refl _)) hR.1 rfl (by omega) (Nat.le_of_ble_eq_true rfl) (by omega) (by omega) (cp_e ox_swap (all1 (fun p pe pR pF => ?_))) (cp_n ox_swap (fun p v pe pR pF => ?_))
  · refine swx_catchW (E := "java/lang/IndexOutOfBoundsException") (pre := []) (suf := []) (x := (0, 13, 16, 19)) (k0 := 5) (lv' := [(0, _), (1, _), (2, _), (3, _), (4, _)]) rfl (pas0) (by decide +kernel) (by decide +kernel) w_395 v_325 dL_swap_16 (by decide +kernel) rfl ?_
    refine sw_iconst (pc' := 19) (v := 1) rfl dL_swap_18 (by decide +kernel) ?_
    refine sw_ret (v := some _) ⟨dL_swap_19, _, rfl, rfl⟩ ?_
    exact lp_x pe tc_1 pR pF hO hn (Nat.le_refl _)
  refine sw_i2l (pc' := 10) rfl dL_swap_9 ?_
  refine sw_putN (ci := 5) (k := 0) (pc' := 13) rfl dL_swap_10 (by decide +kernel) (by decide +kernel) v_347 rfl ((pF 158 (by omega) (by omega)).trans hO) (by show 100 ≤ _; omega) (Nat.le_of_ble_eq_true rfl) rfl rfl ?_
  refine sw_nm (fun g1 eg1 => ?_)
  have zg1 := (congrFun eg1 158).trans (up_s (h := p) (i := 158))
  refine sw_goto (tgt := 20) dL_swap_13 (by decide +kernel) ?_
  refine sw_iconst (pc' := 21) (v := 0) rfl dL_swap_20 (by decide +kernel) ?_
  refine sw_ret (v := some _) ⟨dL_swap_21, _, rfl, rfl⟩ ?_
  exact lp_v pe pR pF zg1 rfl (fun i h1 => (congrFun eg1 i).trans ((up_n h1).trans (rfl)))
theorem ox_fill {σ : CS} {a x : Int32} : OX [sI, sA] (opFill σ a x) := by
  unfold opFill
  repeat' first
    | with_reducible exact ox_i
    | with_reducible exact ox_I mm_IA_I
    | with_reducible exact ox_A mm_IA_A
    | with_reducible refine ox_Sh mm_IA_I (fun _ => ?_)
    | with_reducible refine ox_Wk mm_IA_I (fun _ => ?_)
    | with_reducible refine ox_Rw mm_IA_I (fun _ => ?_)
    | with_reducible refine ox_Li mm_IA_I (fun _ => ?_)
    | with_reducible refine ox_if ?_ ?_
    | exact ox_i
    | exact ox_I mm_IA_I
    | exact ox_A mm_IA_A
    | refine ox_Sh mm_IA_I (fun _ => ?_)
    | refine ox_Wk mm_IA_I (fun _ => ?_)
    | refine ox_Rw mm_IA_I (fun _ => ?_)
    | refine ox_Li mm_IA_I (fun _ => ?_)
    | refine ox_if ?_ ?_
    | split
theorem L_fill {h : AH} {d bc bs n N : Nat} {σ : CS} {a x : Int32} {w : Int64} {s : Value} (hR : RC h σ) (hT : TXT h) (hV : IV σ N) (hN : N < 2 ^ 31) (hO : h 158 = .inr (5, [.long w, s])) (hn : 159 ≤ n) (hd : 12 ≤ d) (h1 : 60 ≤ bc) (h2 : 400 ≤ bs) : SM SR0 ML_fill d bc bs [.ref 100, .int a, .int x, .ref 158] h n (LPo h n (tc sI sA) (opFill σ a x)) := by
  refine sm_ofH pn_OverwalksLaw (by decide +kernel) (Nat.le_of_ble_eq_true rfl) ?_
  refine sw_aload_n (pc' := 1) rfl dL_fill_0 rfl ?_
  refine sw_aload_n (pc' := 2) rfl dL_fill_1 rfl ?_
  refine sw_iload_n (pc' := 3) rfl dL_fill_2 rfl ?_
  refine sw_iload_n (pc' := 4) rfl dL_fill_3 rfl ?_
  refine sw_V (M' := MX3_fill) (d' := d - 1) (bc' := 20) (bs' := 200) (ci := 4) (as := [_, _]) dL_fill_4 w_602 ok_X3_fill (m_fill hR (by omega) (Nat.le_refl _) (Nat.le_refl _)) hR.1 rfl (by omega) (Nat.le_of_ble_eq_true rfl) (by omega) (by omega) (cp_e ox_fill (all2 (fun p pe pR pF => ?_) (fun p pe pR pF => ?_))) (cp_n ox_fill (fun p v pe pR pF => ?_))
  · refine swx_catchW (E := "java/lang/IndexOutOfBoundsException") (pre := []) (suf := [(0, 11, 18, 21)]) (x := (0, 11, 14, 19)) (k0 := 4) (lv' := [(0, _), (1, _), (2, _), (3, _)]) rfl (pas0) (by decide +kernel) (by decide +kernel) w_395 v_325 dL_fill_14 (by decide +kernel) rfl ?_
    refine sw_iconst (pc' := 17) (v := 1) rfl dL_fill_16 (by decide +kernel) ?_
    refine sw_ret (v := some _) ⟨dL_fill_17, _, rfl, rfl⟩ ?_
    exact lp_x pe tc_1 pR pF hO hn (Nat.le_refl _)
  · refine swx_catchW (E := "java/lang/IllegalArgumentException") (pre := [(0, 11, 14, 19)]) (suf := []) (x := (0, 11, 18, 21)) (k0 := 4) (lv' := [(0, _), (1, _), (2, _), (3, _)]) rfl (pas1 ⟨by decide +kernel, _, w_395, .tail _ (.tail _ (.head _))⟩) (by decide +kernel) (by decide +kernel) w_396 v_249 dL_fill_18 (by decide +kernel) rfl ?_
    refine sw_iconst (pc' := 21) (v := 2) rfl dL_fill_20 (by decide +kernel) ?_
    refine sw_ret (v := some _) ⟨dL_fill_21, _, rfl, rfl⟩ ?_
    exact lp_x pe (tc_2 sAI) pR pF hO hn (Nat.le_refl _)
  refine sw_i2l (pc' := 8) rfl dL_fill_7 ?_
  refine sw_putN (ci := 5) (k := 0) (pc' := 11) rfl dL_fill_8 (by decide +kernel) (by decide +kernel) v_347 rfl ((pF 158 (by omega) (by omega)).trans hO) (by show 100 ≤ _; omega) (Nat.le_of_ble_eq_true rfl) rfl rfl ?_
  refine sw_nm (fun g1 eg1 => ?_)
  have zg1 := (congrFun eg1 158).trans (up_s (h := p) (i := 158))
  refine sw_goto (tgt := 22) dL_fill_11 (by decide +kernel) ?_
  refine sw_iconst (pc' := 23) (v := 0) rfl dL_fill_22 (by decide +kernel) ?_
  refine sw_ret (v := some _) ⟨dL_fill_23, _, rfl, rfl⟩ ?_
  exact lp_v pe pR pF zg1 rfl (fun i h1 => (congrFun eg1 i).trans ((up_n h1).trans (rfl)))
theorem ox_replace {σ : CS} {a x y : Int32} : OX [sI, sA] (opReplace σ a x y) := by
  unfold opReplace
  repeat' first
    | with_reducible exact ox_i
    | with_reducible exact ox_I mm_IA_I
    | with_reducible exact ox_A mm_IA_A
    | with_reducible refine ox_Sh mm_IA_I (fun _ => ?_)
    | with_reducible refine ox_Wk mm_IA_I (fun _ => ?_)
    | with_reducible refine ox_Rw mm_IA_I (fun _ => ?_)
    | with_reducible refine ox_Li mm_IA_I (fun _ => ?_)
    | with_reducible refine ox_if ?_ ?_
    | exact ox_i
    | exact ox_I mm_IA_I
    | exact ox_A mm_IA_A
    | refine ox_Sh mm_IA_I (fun _ => ?_)
    | refine ox_Wk mm_IA_I (fun _ => ?_)
    | refine ox_Rw mm_IA_I (fun _ => ?_)
    | refine ox_Li mm_IA_I (fun _ => ?_)
    | refine ox_if ?_ ?_
    | split
theorem L_replace {h : AH} {d bc bs n N : Nat} {σ : CS} {a x y : Int32} {w : Int64} {s : Value} (hR : RC h σ) (hT : TXT h) (hV : IV σ N) (hN : N < 2 ^ 31) (hO : h 158 = .inr (5, [.long w, s])) (hn : 159 ≤ n) (hd : 12 ≤ d) (h1 : 60 ≤ bc) (h2 : 400 ≤ bs) : SM SR0 ML_replace d bc bs [.ref 100, .int a, .int x, .int y, .ref 158] h n (LPo h n (tc sI sA) (opReplace σ a x y)) := by
  refine sm_ofH pn_OverwalksLaw (by decide +kernel) (Nat.le_of_ble_eq_true rfl) ?_
  refine sw_aload (pc' := 2) rfl dL_replace_0 rfl ?_
  refine sw_aload_n (pc' := 3) rfl dL_replace_2 rfl ?_
  refine sw_iload_n (pc' := 4) rfl dL_replace_3 rfl ?_
  refine sw_iload_n (pc' := 5) rfl dL_replace_4 rfl ?_
  refine sw_iload_n (pc' := 6) rfl dL_replace_5 rfl ?_
  refine sw_V (M' := MX3_replace) (d' := d - 1) (bc' := 20) (bs' := 200) (ci := 4) (as := [_, _, _]) dL_replace_6 w_609 ok_X3_replace (m_replace hR (by omega) (Nat.le_refl _) (Nat.le_refl _)) hR.1 rfl (by omega) (Nat.le_of_ble_eq_true rfl) (by omega) (by omega) (cp_e ox_replace (all2 (fun p pe pR pF => ?_) (fun p pe pR pF => ?_))) (cp_n ox_replace (fun p v pe pR pF => ?_))
  · refine swx_catchW (E := "java/lang/IndexOutOfBoundsException") (pre := []) (suf := [(0, 13, 20, 21)]) (x := (0, 13, 16, 19)) (k0 := 5) (lv' := [(0, _), (1, _), (2, _), (3, _), (4, _)]) rfl (pas0) (by decide +kernel) (by decide +kernel) w_395 v_325 dL_replace_16 (by decide +kernel) rfl ?_
    refine sw_iconst (pc' := 19) (v := 1) rfl dL_replace_18 (by decide +kernel) ?_
    refine sw_ret (v := some _) ⟨dL_replace_19, _, rfl, rfl⟩ ?_
    exact lp_x pe tc_1 pR pF hO hn (Nat.le_refl _)
  · refine swx_catchW (E := "java/lang/IllegalArgumentException") (pre := [(0, 13, 16, 19)]) (suf := []) (x := (0, 13, 20, 21)) (k0 := 5) (lv' := [(0, _), (1, _), (2, _), (3, _), (4, _)]) rfl (pas1 ⟨by decide +kernel, _, w_395, .tail _ (.tail _ (.head _))⟩) (by decide +kernel) (by decide +kernel) w_396 v_249 dL_replace_20 (by decide +kernel) rfl ?_
    refine sw_iconst (pc' := 23) (v := 2) rfl dL_replace_22 (by decide +kernel) ?_
    refine sw_ret (v := some _) ⟨dL_replace_23, _, rfl, rfl⟩ ?_
    exact lp_x pe (tc_2 sAI) pR pF hO hn (Nat.le_refl _)
  refine sw_i2l (pc' := 10) rfl dL_replace_9 ?_
  refine sw_putN (ci := 5) (k := 0) (pc' := 13) rfl dL_replace_10 (by decide +kernel) (by decide +kernel) v_347 rfl ((pF 158 (by omega) (by omega)).trans hO) (by show 100 ≤ _; omega) (Nat.le_of_ble_eq_true rfl) rfl rfl ?_
  refine sw_nm (fun g1 eg1 => ?_)
  have zg1 := (congrFun eg1 158).trans (up_s (h := p) (i := 158))
  refine sw_goto (tgt := 24) dL_replace_13 (by decide +kernel) ?_
  refine sw_iconst (pc' := 25) (v := 0) rfl dL_replace_24 (by decide +kernel) ?_
  refine sw_ret (v := some _) ⟨dL_replace_25, _, rfl, rfl⟩ ?_
  exact lp_v pe pR pF zg1 rfl (fun i h1 => (congrFun eg1 i).trans ((up_n h1).trans (rfl)))
theorem ox_copies {σ : CS} {a x y : Int32} : OX [sI, sA, sS] (opCopies σ a x y) := by
  unfold opCopies
  repeat' first
    | with_reducible exact ox_i
    | with_reducible exact ox_I mm_IAS_I
    | with_reducible exact ox_A mm_IAS_A
    | with_reducible exact ox_S mm_IAS_S
    | with_reducible refine ox_Sh mm_IAS_I (fun _ => ?_)
    | with_reducible refine ox_Wk mm_IAS_I (fun _ => ?_)
    | with_reducible refine ox_Rw mm_IAS_I (fun _ => ?_)
    | with_reducible refine ox_Li mm_IAS_I (fun _ => ?_)
    | with_reducible refine ox_if ?_ ?_
    | exact ox_i
    | exact ox_I mm_IAS_I
    | exact ox_A mm_IAS_A
    | exact ox_S mm_IAS_S
    | refine ox_Sh mm_IAS_I (fun _ => ?_)
    | refine ox_Wk mm_IAS_I (fun _ => ?_)
    | refine ox_Rw mm_IAS_I (fun _ => ?_)
    | refine ox_Li mm_IAS_I (fun _ => ?_)
    | refine ox_if ?_ ?_
    | split
theorem L_copies {h : AH} {d bc bs n N : Nat} {σ : CS} {a x y : Int32} {w : Int64} {s : Value} (hR : RC h σ) (hT : TXT h) (hV : IV σ N) (hN : N < 2 ^ 31) (hO : h 158 = .inr (5, [.long w, s])) (hn : 159 ≤ n) (hd : 12 ≤ d) (h1 : 60 ≤ bc) (h2 : 400 ≤ bs) : SM SR0 ML_copies d bc bs [.ref 100, .int a, .int x, .int y, .ref 158] h n (LPo h n (tc sI sA) (opCopies σ a x y)) := by
  refine sm_ofH pn_OverwalksLaw (by decide +kernel) (Nat.le_of_ble_eq_true rfl) ?_
  refine sw_aload (pc' := 2) rfl dL_copies_0 rfl ?_
  refine sw_aload_n (pc' := 3) rfl dL_copies_2 rfl ?_
  refine sw_iload_n (pc' := 4) rfl dL_copies_3 rfl ?_
  refine sw_iload_n (pc' := 5) rfl dL_copies_4 rfl ?_
  refine sw_iload_n (pc' := 6) rfl dL_copies_5 rfl ?_
  refine sw_V (M' := MX3_copies) (d' := d - 1) (bc' := 20) (bs' := 200) (ci := 4) (as := [_, _, _]) dL_copies_6 w_616 ok_X3_copies (m_copies hR (by omega) (Nat.le_refl _) (Nat.le_refl _)) hR.1 rfl (by omega) (Nat.le_of_ble_eq_true rfl) (by omega) (by omega) (cp_e ox_copies (all3 (fun p pe pR pF => ?_) (fun p pe pR pF => ?_) (fun p pe pR pF => ?_))) (cp_n ox_copies (fun p v pe pR pF => ?_))
  · refine swx_catchW (E := "java/lang/IndexOutOfBoundsException") (pre := []) (suf := [(0, 13, 20, 21), (0, 13, 24, 23)]) (x := (0, 13, 16, 19)) (k0 := 5) (lv' := [(0, _), (1, _), (2, _), (3, _), (4, _)]) rfl (pas0) (by decide +kernel) (by decide +kernel) w_395 v_325 dL_copies_16 (by decide +kernel) rfl ?_
    refine sw_iconst (pc' := 19) (v := 1) rfl dL_copies_18 (by decide +kernel) ?_
    refine sw_ret (v := some _) ⟨dL_copies_19, _, rfl, rfl⟩ ?_
    exact lp_x pe tc_1 pR pF hO hn (Nat.le_refl _)
  · refine swx_catchW (E := "java/lang/IllegalArgumentException") (pre := [(0, 13, 16, 19)]) (suf := [(0, 13, 24, 23)]) (x := (0, 13, 20, 21)) (k0 := 5) (lv' := [(0, _), (1, _), (2, _), (3, _), (4, _)]) rfl (pas1 ⟨by decide +kernel, _, w_395, .tail _ (.tail _ (.head _))⟩) (by decide +kernel) (by decide +kernel) w_396 v_249 dL_copies_20 (by decide +kernel) rfl ?_
    refine sw_iconst (pc' := 23) (v := 2) rfl dL_copies_22 (by decide +kernel) ?_
    refine sw_ret (v := some _) ⟨dL_copies_23, _, rfl, rfl⟩ ?_
    exact lp_x pe (tc_2 sAI) pR pF hO hn (Nat.le_refl _)
  · refine swx_catchW (E := "java/lang/IllegalStateException") (pre := [(0, 13, 16, 19), (0, 13, 20, 21)]) (suf := []) (x := (0, 13, 24, 23)) (k0 := 5) (lv' := [(0, _), (1, _), (2, _), (3, _), (4, _)]) rfl (pas2 ⟨by decide +kernel, _, w_395, .tail _ (.tail _ (.tail _ (.tail _ (.head _))))⟩ ⟨by decide +kernel, _, w_396, .tail _ (.tail _ (.tail _ (.tail _ (.tail _ (.head _)))))⟩) (by decide +kernel) (by decide +kernel) w_397 v_378 dL_copies_24 (by decide +kernel) rfl ?_
    refine sw_iconst (pc' := 27) (v := 3) rfl dL_copies_26 (by decide +kernel) ?_
    refine sw_ret (v := some _) ⟨dL_copies_27, _, rfl, rfl⟩ ?_
    exact lp_x pe (tc_3 sSI sSA) pR pF hO hn (Nat.le_refl _)
  refine sw_i2l (pc' := 10) rfl dL_copies_9 ?_
  refine sw_putN (ci := 5) (k := 0) (pc' := 13) rfl dL_copies_10 (by decide +kernel) (by decide +kernel) v_347 rfl ((pF 158 (by omega) (by omega)).trans hO) (by show 100 ≤ _; omega) (Nat.le_of_ble_eq_true rfl) rfl rfl ?_
  refine sw_nm (fun g1 eg1 => ?_)
  have zg1 := (congrFun eg1 158).trans (up_s (h := p) (i := 158))
  refine sw_goto (tgt := 28) dL_copies_13 (by decide +kernel) ?_
  refine sw_iconst (pc' := 29) (v := 0) rfl dL_copies_28 (by decide +kernel) ?_
  refine sw_ret (v := some _) ⟨dL_copies_29, _, rfl, rfl⟩ ?_
  exact lp_v pe pR pF zg1 rfl (fun i h1 => (congrFun eg1 i).trans ((up_n h1).trans (rfl)))
theorem ox_walk {σ : CS} {a x y : Int32} : OX [sI, sA] (opWalk σ a x y) := by
  unfold opWalk
  repeat' first
    | with_reducible exact ox_i
    | with_reducible exact ox_I mm_IA_I
    | with_reducible exact ox_A mm_IA_A
    | with_reducible refine ox_Sh mm_IA_I (fun _ => ?_)
    | with_reducible refine ox_Wk mm_IA_I (fun _ => ?_)
    | with_reducible refine ox_Rw mm_IA_I (fun _ => ?_)
    | with_reducible refine ox_Li mm_IA_I (fun _ => ?_)
    | with_reducible refine ox_if ?_ ?_
    | exact ox_i
    | exact ox_I mm_IA_I
    | exact ox_A mm_IA_A
    | refine ox_Sh mm_IA_I (fun _ => ?_)
    | refine ox_Wk mm_IA_I (fun _ => ?_)
    | refine ox_Rw mm_IA_I (fun _ => ?_)
    | refine ox_Li mm_IA_I (fun _ => ?_)
    | refine ox_if ?_ ?_
    | split
theorem L_walk {h : AH} {d bc bs n N : Nat} {σ : CS} {a x y : Int32} {w : Int64} {s : Value} (hR : RC h σ) (hT : TXT h) (hV : IV σ N) (hN : N < 2 ^ 31) (hO : h 158 = .inr (5, [.long w, s])) (hn : 159 ≤ n) (hd : 12 ≤ d) (h1 : 60 ≤ bc) (h2 : 400 ≤ bs) : SM SR0 ML_walk d bc bs [.ref 100, .int a, .int x, .int y, .ref 158] h n (LPo h n (tc sI sA) (opWalk σ a x y)) := by
  refine sm_ofH pn_OverwalksLaw (by decide +kernel) (Nat.le_of_ble_eq_true rfl) ?_
  refine sw_aload (pc' := 2) rfl dL_walk_0 rfl ?_
  refine sw_aload_n (pc' := 3) rfl dL_walk_2 rfl ?_
  refine sw_iload_n (pc' := 4) rfl dL_walk_3 rfl ?_
  refine sw_iload_n (pc' := 5) rfl dL_walk_4 rfl ?_
  refine sw_iload_n (pc' := 6) rfl dL_walk_5 rfl ?_
  refine sw_V (M' := MX3_walk) (d' := d - 1) (bc' := 20) (bs' := 200) (ci := 4) (as := [_, _, _]) dL_walk_6 w_627 ok_X3_walk (m_walk hR (by omega) (Nat.le_refl _) (Nat.le_refl _)) hR.1 rfl (by omega) (Nat.le_of_ble_eq_true rfl) (by omega) (by omega) (cp_e ox_walk (all2 (fun p pe pR pF => ?_) (fun p pe pR pF => ?_))) (cp_n ox_walk (fun p v pe pR pF => ?_))
  · refine swx_catchW (E := "java/lang/IndexOutOfBoundsException") (pre := []) (suf := [(0, 13, 20, 21)]) (x := (0, 13, 16, 19)) (k0 := 5) (lv' := [(0, _), (1, _), (2, _), (3, _), (4, _)]) rfl (pas0) (by decide +kernel) (by decide +kernel) w_395 v_325 dL_walk_16 (by decide +kernel) rfl ?_
    refine sw_iconst (pc' := 19) (v := 1) rfl dL_walk_18 (by decide +kernel) ?_
    refine sw_ret (v := some _) ⟨dL_walk_19, _, rfl, rfl⟩ ?_
    exact lp_x pe tc_1 pR pF hO hn (Nat.le_refl _)
  · refine swx_catchW (E := "java/lang/IllegalArgumentException") (pre := [(0, 13, 16, 19)]) (suf := []) (x := (0, 13, 20, 21)) (k0 := 5) (lv' := [(0, _), (1, _), (2, _), (3, _), (4, _)]) rfl (pas1 ⟨by decide +kernel, _, w_395, .tail _ (.tail _ (.head _))⟩) (by decide +kernel) (by decide +kernel) w_396 v_249 dL_walk_20 (by decide +kernel) rfl ?_
    refine sw_iconst (pc' := 23) (v := 2) rfl dL_walk_22 (by decide +kernel) ?_
    refine sw_ret (v := some _) ⟨dL_walk_23, _, rfl, rfl⟩ ?_
    exact lp_x pe (tc_2 sAI) pR pF hO hn (Nat.le_refl _)
  refine sw_i2l (pc' := 10) rfl dL_walk_9 ?_
  refine sw_putN (ci := 5) (k := 0) (pc' := 13) rfl dL_walk_10 (by decide +kernel) (by decide +kernel) v_347 rfl ((pF 158 (by omega) (by omega)).trans hO) (by show 100 ≤ _; omega) (Nat.le_of_ble_eq_true rfl) rfl rfl ?_
  refine sw_nm (fun g1 eg1 => ?_)
  have zg1 := (congrFun eg1 158).trans (up_s (h := p) (i := 158))
  refine sw_goto (tgt := 24) dL_walk_13 (by decide +kernel) ?_
  refine sw_iconst (pc' := 25) (v := 0) rfl dL_walk_24 (by decide +kernel) ?_
  refine sw_ret (v := some _) ⟨dL_walk_25, _, rfl, rfl⟩ ?_
  exact lp_v pe pR pF zg1 rfl (fun i h1 => (congrFun eg1 i).trans ((up_n h1).trans (rfl)))
theorem ox_next {σ : CS} {a : Int32} : OX [sI, sS] (opNext σ a) := by
  unfold opNext
  repeat' first
    | with_reducible exact ox_i
    | with_reducible exact ox_I mm_IS_I
    | with_reducible exact ox_S mm_IS_S
    | with_reducible refine ox_Sh mm_IS_I (fun _ => ?_)
    | with_reducible refine ox_Wk mm_IS_I (fun _ => ?_)
    | with_reducible refine ox_Rw mm_IS_I (fun _ => ?_)
    | with_reducible refine ox_Li mm_IS_I (fun _ => ?_)
    | with_reducible refine ox_if ?_ ?_
    | exact ox_i
    | exact ox_I mm_IS_I
    | exact ox_S mm_IS_S
    | refine ox_Sh mm_IS_I (fun _ => ?_)
    | refine ox_Wk mm_IS_I (fun _ => ?_)
    | refine ox_Rw mm_IS_I (fun _ => ?_)
    | refine ox_Li mm_IS_I (fun _ => ?_)
    | refine ox_if ?_ ?_
    | split
theorem L_next {h : AH} {d bc bs n N : Nat} {σ : CS} {a : Int32} {w : Int64} {s : Value} (hR : RC h σ) (hT : TXT h) (hV : IV σ N) (hN : N < 2 ^ 31) (hO : h 158 = .inr (5, [.long w, s])) (hn : 159 ≤ n) (hd : 12 ≤ d) (h1 : 60 ≤ bc) (h2 : 400 ≤ bs) : SM SR0 ML_next d bc bs [.ref 100, .int a, .ref 158] h n (LPo h n (tc sI sS) (opNext σ a)) := by
  refine sm_ofH pn_OverwalksLaw (by decide +kernel) (Nat.le_of_ble_eq_true rfl) ?_
  refine sw_aload_n (pc' := 1) rfl dL_next_0 rfl ?_
  refine sw_aload_n (pc' := 2) rfl dL_next_1 rfl ?_
  refine sw_iload_n (pc' := 3) rfl dL_next_2 rfl ?_
  refine sw_V (M' := MX3_next) (d' := d - 1) (bc' := 20) (bs' := 200) (ci := 4) (as := [_]) dL_next_3 w_636 ok_X3_next (m_next hR (by omega) (Nat.le_refl _) (Nat.le_refl _)) hR.1 rfl (by omega) (Nat.le_of_ble_eq_true rfl) (by omega) (by omega) (cp_e ox_next (all2 (fun p pe pR pF => ?_) (fun p pe pR pF => ?_))) (cp_n ox_next (fun p v pe pR pF => ?_))
  · refine swx_catch (E := "java/lang/IndexOutOfBoundsException") (pre := []) (suf := [(0, 10, 16, 23)]) (x := (0, 10, 13, 19)) (k0 := 3) (lv' := [(0, _), (1, _), (2, _)]) rfl (pas0) (by decide +kernel) (by decide +kernel) w_395 v_325 dL_next_13 (by decide +kernel) rfl ?_
    refine sw_iconst (pc' := 15) (v := 1) rfl dL_next_14 (by decide +kernel) ?_
    refine sw_ret (v := some _) ⟨dL_next_15, _, rfl, rfl⟩ ?_
    exact lp_x pe tc_1 pR pF hO hn (Nat.le_refl _)
  · refine swx_catch (E := "java/lang/IllegalStateException") (pre := [(0, 10, 13, 19)]) (suf := []) (x := (0, 10, 16, 23)) (k0 := 3) (lv' := [(0, _), (1, _), (2, _)]) rfl (pas1 ⟨by decide +kernel, _, w_395, .tail _ (.tail _ (.tail _ (.tail _ (.head _))))⟩) (by decide +kernel) (by decide +kernel) w_397 v_378 dL_next_16 (by decide +kernel) rfl ?_
    refine sw_iconst (pc' := 18) (v := 2) rfl dL_next_17 (by decide +kernel) ?_
    refine sw_ret (v := some _) ⟨dL_next_18, _, rfl, rfl⟩ ?_
    exact lp_x pe (tc_2 sSI) pR pF hO hn (Nat.le_refl _)
  refine sw_i2l (pc' := 7) rfl dL_next_6 ?_
  refine sw_putN (ci := 5) (k := 0) (pc' := 10) rfl dL_next_7 (by decide +kernel) (by decide +kernel) v_347 rfl ((pF 158 (by omega) (by omega)).trans hO) (by show 100 ≤ _; omega) (Nat.le_of_ble_eq_true rfl) rfl rfl ?_
  refine sw_nm (fun g1 eg1 => ?_)
  have zg1 := (congrFun eg1 158).trans (up_s (h := p) (i := 158))
  refine sw_goto (tgt := 19) dL_next_10 (by decide +kernel) ?_
  refine sw_iconst (pc' := 20) (v := 0) rfl dL_next_19 (by decide +kernel) ?_
  refine sw_ret (v := some _) ⟨dL_next_20, _, rfl, rfl⟩ ?_
  exact lp_v pe pR pF zg1 rfl (fun i h1 => (congrFun eg1 i).trans ((up_n h1).trans (rfl)))
theorem ox_more {σ : CS} {a : Int32} : OX [sI, sS] (opMore σ a) := by
  unfold opMore
  repeat' first
    | with_reducible exact ox_i
    | with_reducible exact ox_I mm_IS_I
    | with_reducible exact ox_S mm_IS_S
    | with_reducible refine ox_Sh mm_IS_I (fun _ => ?_)
    | with_reducible refine ox_Wk mm_IS_I (fun _ => ?_)
    | with_reducible refine ox_Rw mm_IS_I (fun _ => ?_)
    | with_reducible refine ox_Li mm_IS_I (fun _ => ?_)
    | with_reducible refine ox_if ?_ ?_
    | exact ox_i
    | exact ox_I mm_IS_I
    | exact ox_S mm_IS_S
    | refine ox_Sh mm_IS_I (fun _ => ?_)
    | refine ox_Wk mm_IS_I (fun _ => ?_)
    | refine ox_Rw mm_IS_I (fun _ => ?_)
    | refine ox_Li mm_IS_I (fun _ => ?_)
    | refine ox_if ?_ ?_
    | split
theorem L_more {h : AH} {d bc bs n N : Nat} {σ : CS} {a : Int32} {w : Int64} {s : Value} (hR : RC h σ) (hT : TXT h) (hV : IV σ N) (hN : N < 2 ^ 31) (hO : h 158 = .inr (5, [.long w, s])) (hn : 159 ≤ n) (hd : 12 ≤ d) (h1 : 60 ≤ bc) (h2 : 400 ≤ bs) : SM SR0 ML_more d bc bs [.ref 100, .int a, .ref 158] h n (LPo h n (tc sI sS) (opMore σ a)) := by
  refine sm_ofH pn_OverwalksLaw (by decide +kernel) (Nat.le_of_ble_eq_true rfl) ?_
  refine sw_aload_n (pc' := 1) rfl dL_more_0 rfl ?_
  refine sw_aload_n (pc' := 2) rfl dL_more_1 rfl ?_
  refine sw_iload_n (pc' := 3) rfl dL_more_2 rfl ?_
  refine sw_V (M' := MX3_more) (d' := d - 1) (bc' := 20) (bs' := 200) (ci := 4) (as := [_]) dL_more_3 w_647 ok_X3_more (m_more hR (by omega) (Nat.le_refl _) (Nat.le_refl _)) hR.1 rfl (by omega) (Nat.le_of_ble_eq_true rfl) (by omega) (by omega) (cp_e ox_more (all2 (fun p pe pR pF => ?_) (fun p pe pR pF => ?_))) (cp_n ox_more (fun p v pe pR pF => ?_))
  · refine swx_catch (E := "java/lang/IndexOutOfBoundsException") (pre := []) (suf := [(0, 10, 16, 23)]) (x := (0, 10, 13, 19)) (k0 := 3) (lv' := [(0, _), (1, _), (2, _)]) rfl (pas0) (by decide +kernel) (by decide +kernel) w_395 v_325 dL_more_13 (by decide +kernel) rfl ?_
    refine sw_iconst (pc' := 15) (v := 1) rfl dL_more_14 (by decide +kernel) ?_
    refine sw_ret (v := some _) ⟨dL_more_15, _, rfl, rfl⟩ ?_
    exact lp_x pe tc_1 pR pF hO hn (Nat.le_refl _)
  · refine swx_catch (E := "java/lang/IllegalStateException") (pre := [(0, 10, 13, 19)]) (suf := []) (x := (0, 10, 16, 23)) (k0 := 3) (lv' := [(0, _), (1, _), (2, _)]) rfl (pas1 ⟨by decide +kernel, _, w_395, .tail _ (.tail _ (.tail _ (.tail _ (.head _))))⟩) (by decide +kernel) (by decide +kernel) w_397 v_378 dL_more_16 (by decide +kernel) rfl ?_
    refine sw_iconst (pc' := 18) (v := 2) rfl dL_more_17 (by decide +kernel) ?_
    refine sw_ret (v := some _) ⟨dL_more_18, _, rfl, rfl⟩ ?_
    exact lp_x pe (tc_2 sSI) pR pF hO hn (Nat.le_refl _)
  refine sw_i2l (pc' := 7) rfl dL_more_6 ?_
  refine sw_putN (ci := 5) (k := 0) (pc' := 10) rfl dL_more_7 (by decide +kernel) (by decide +kernel) v_347 rfl ((pF 158 (by omega) (by omega)).trans hO) (by show 100 ≤ _; omega) (Nat.le_of_ble_eq_true rfl) rfl rfl ?_
  refine sw_nm (fun g1 eg1 => ?_)
  have zg1 := (congrFun eg1 158).trans (up_s (h := p) (i := 158))
  refine sw_goto (tgt := 19) dL_more_10 (by decide +kernel) ?_
  refine sw_iconst (pc' := 20) (v := 0) rfl dL_more_19 (by decide +kernel) ?_
  refine sw_ret (v := some _) ⟨dL_more_20, _, rfl, rfl⟩ ?_
  exact lp_v pe pR pF zg1 rfl (fun i h1 => (congrFun eg1 i).trans ((up_n h1).trans (rfl)))
theorem ox_takeOut {σ : CS} {a : Int32} : OX [sI, sS] (opTakeOut σ a) := by
  unfold opTakeOut
  repeat' first
    | with_reducible exact ox_i
    | with_reducible exact ox_I mm_IS_I
    | with_reducible exact ox_S mm_IS_S
    | with_reducible refine ox_Sh mm_IS_I (fun _ => ?_)
    | with_reducible refine ox_Wk mm_IS_I (fun _ => ?_)
    | with_reducible refine ox_Rw mm_IS_I (fun _ => ?_)
    | with_reducible refine ox_Li mm_IS_I (fun _ => ?_)
    | with_reducible refine ox_if ?_ ?_
    | exact ox_i
    | exact ox_I mm_IS_I
    | exact ox_S mm_IS_S
    | refine ox_Sh mm_IS_I (fun _ => ?_)
    | refine ox_Wk mm_IS_I (fun _ => ?_)
    | refine ox_Rw mm_IS_I (fun _ => ?_)
    | refine ox_Li mm_IS_I (fun _ => ?_)
    | refine ox_if ?_ ?_
    | split
theorem L_takeOut {h : AH} {d bc bs n N : Nat} {σ : CS} {a : Int32} {w : Int64} {s : Value} (hR : RC h σ) (hT : TXT h) (hV : IV σ N) (hN : N < 2 ^ 31) (hO : h 158 = .inr (5, [.long w, s])) (hn : 159 ≤ n) (hd : 12 ≤ d) (h1 : 60 ≤ bc) (h2 : 400 ≤ bs) : SM SR0 ML_takeOut d bc bs [.ref 100, .int a, .ref 158] h n (LPo h n (tc sI sS) (opTakeOut σ a)) := by
  refine sm_ofH pn_OverwalksLaw (by decide +kernel) (Nat.le_of_ble_eq_true rfl) ?_
  refine sw_aload_n (pc' := 1) rfl dL_takeOut_0 rfl ?_
  refine sw_aload_n (pc' := 2) rfl dL_takeOut_1 rfl ?_
  refine sw_iload_n (pc' := 3) rfl dL_takeOut_2 rfl ?_
  refine sw_V (M' := MX3_takeOut) (d' := d - 1) (bc' := 20) (bs' := 200) (ci := 4) (as := [_]) dL_takeOut_3 w_654 ok_X3_takeOut (m_takeOut hR (by omega) (Nat.le_refl _) (Nat.le_refl _) hV.2 (hV.iv hN).2.2.2.2.2.2.2) hR.1 rfl (by omega) (Nat.le_of_ble_eq_true rfl) (by omega) (by omega) (cp_e ox_takeOut (all2 (fun p pe pR pF => ?_) (fun p pe pR pF => ?_))) (cp_n ox_takeOut (fun p v pe pR pF => ?_))
  · refine swx_catch (E := "java/lang/IndexOutOfBoundsException") (pre := []) (suf := [(0, 10, 16, 23)]) (x := (0, 10, 13, 19)) (k0 := 3) (lv' := [(0, _), (1, _), (2, _)]) rfl (pas0) (by decide +kernel) (by decide +kernel) w_395 v_325 dL_takeOut_13 (by decide +kernel) rfl ?_
    refine sw_iconst (pc' := 15) (v := 1) rfl dL_takeOut_14 (by decide +kernel) ?_
    refine sw_ret (v := some _) ⟨dL_takeOut_15, _, rfl, rfl⟩ ?_
    exact lp_x pe tc_1 pR pF hO hn (Nat.le_refl _)
  · refine swx_catch (E := "java/lang/IllegalStateException") (pre := [(0, 10, 13, 19)]) (suf := []) (x := (0, 10, 16, 23)) (k0 := 3) (lv' := [(0, _), (1, _), (2, _)]) rfl (pas1 ⟨by decide +kernel, _, w_395, .tail _ (.tail _ (.tail _ (.tail _ (.head _))))⟩) (by decide +kernel) (by decide +kernel) w_397 v_378 dL_takeOut_16 (by decide +kernel) rfl ?_
    refine sw_iconst (pc' := 18) (v := 2) rfl dL_takeOut_17 (by decide +kernel) ?_
    refine sw_ret (v := some _) ⟨dL_takeOut_18, _, rfl, rfl⟩ ?_
    exact lp_x pe (tc_2 sSI) pR pF hO hn (Nat.le_refl _)
  refine sw_i2l (pc' := 7) rfl dL_takeOut_6 ?_
  refine sw_putN (ci := 5) (k := 0) (pc' := 10) rfl dL_takeOut_7 (by decide +kernel) (by decide +kernel) v_347 rfl ((pF 158 (by omega) (by omega)).trans hO) (by show 100 ≤ _; omega) (Nat.le_of_ble_eq_true rfl) rfl rfl ?_
  refine sw_nm (fun g1 eg1 => ?_)
  have zg1 := (congrFun eg1 158).trans (up_s (h := p) (i := 158))
  refine sw_goto (tgt := 19) dL_takeOut_10 (by decide +kernel) ?_
  refine sw_iconst (pc' := 20) (v := 0) rfl dL_takeOut_19 (by decide +kernel) ?_
  refine sw_ret (v := some _) ⟨dL_takeOut_20, _, rfl, rfl⟩ ?_
  exact lp_v pe pR pF zg1 rfl (fun i h1 => (congrFun eg1 i).trans ((up_n h1).trans (rfl)))
theorem ot_rest {σ : CS} {a : Int32} : OT [sI, sS] (opRest σ a) := by
  unfold opRest
  repeat' first
    | with_reducible exact ot_t
    | with_reducible exact ot_I mm_IS_I
    | with_reducible exact ot_S mm_IS_S
    | with_reducible refine ot_Sh mm_IS_I (fun _ => ?_)
    | with_reducible refine ot_Wk mm_IS_I (fun _ => ?_)
    | with_reducible refine ot_if ?_ ?_
    | exact ot_t
    | exact ot_I mm_IS_I
    | exact ot_S mm_IS_S
    | refine ot_Sh mm_IS_I (fun _ => ?_)
    | refine ot_Wk mm_IS_I (fun _ => ?_)
    | refine ot_if ?_ ?_
    | split
theorem L_rest {h : AH} {d bc bs n N : Nat} {σ : CS} {a : Int32} {w : Int64} {s : Value} (hR : RC h σ) (hT : TXT h) (hV : IV σ N) (hN : N < 2 ^ 31) (hO : h 158 = .inr (5, [.long w, s])) (hn : 159 ≤ n) (hd : 12 ≤ d) (h1 : 60 ≤ bc) (h2 : 400 ≤ bs) : SM SR0 ML_rest d bc bs [.ref 100, .int a, .ref 158] h n (LPo h n (tc sI sS) (opRest σ a)) := by
  refine sm_ofH pn_OverwalksLaw (by decide +kernel) (Nat.le_of_ble_eq_true rfl) ?_
  refine sw_aload_n (pc' := 1) rfl dL_rest_0 rfl ?_
  refine sw_aload_n (pc' := 2) rfl dL_rest_1 rfl ?_
  refine sw_iload_n (pc' := 3) rfl dL_rest_2 rfl ?_
  refine sw_V (M' := MX3_rest) (d' := d - 1) (bc' := 60) (bs' := 400) (ci := 4) (as := [_]) dL_rest_3 w_669 ok_X3_rest (m_rest hR hT hV hN (by omega) (by omega) (Nat.le_refl _) (Nat.le_refl _)) hR.1 rfl (by omega) (Nat.le_of_ble_eq_true rfl) (by omega) (by omega) (ct_e ot_rest (all2 (fun p pn pk pe pR pF => ?_) (fun p pn pk pe pR pF => ?_))) (ct_n ot_rest (fun p pn x pk pe pR pF => ?_))
  · refine swx_catch (E := "java/lang/IndexOutOfBoundsException") (pre := []) (suf := [(0, 9, 15, 23)]) (x := (0, 9, 12, 19)) (k0 := 3) (lv' := [(0, _), (1, _), (2, _)]) rfl (pas0) (by decide +kernel) (by decide +kernel) w_395 v_325 dL_rest_12 (by decide +kernel) rfl ?_
    refine sw_iconst (pc' := 14) (v := 1) rfl dL_rest_13 (by decide +kernel) ?_
    refine sw_ret (v := some _) ⟨dL_rest_14, _, rfl, rfl⟩ ?_
    exact lp_x pe tc_1 pR pF hO hn pk
  · refine swx_catch (E := "java/lang/IllegalStateException") (pre := [(0, 9, 12, 19)]) (suf := []) (x := (0, 9, 15, 23)) (k0 := 3) (lv' := [(0, _), (1, _), (2, _)]) rfl (pas1 ⟨by decide +kernel, _, w_395, .tail _ (.tail _ (.tail _ (.tail _ (.head _))))⟩) (by decide +kernel) (by decide +kernel) w_397 v_378 dL_rest_15 (by decide +kernel) rfl ?_
    refine sw_iconst (pc' := 17) (v := 2) rfl dL_rest_16 (by decide +kernel) ?_
    refine sw_ret (v := some _) ⟨dL_rest_17, _, rfl, rfl⟩ ?_
    exact lp_x pe (tc_2 sSI) pR pF hO hn pk
  refine sw_putN (ci := 5) (k := 1) (pc' := 9) rfl dL_rest_6 (by decide +kernel) (by decide +kernel) v_348 rfl ((pF 158 (by omega) (by omega)).trans hO) (by show 100 ≤ _; omega) (Nat.le_of_ble_eq_true rfl) rfl rfl ?_
  refine sw_nm (fun g1 eg1 => ?_)
  have zg1 := (congrFun eg1 158).trans (up_s (h := p) (i := 158))
  refine sw_goto (tgt := 18) dL_rest_9 (by decide +kernel) ?_
  refine sw_iconst (pc' := 19) (v := 0) rfl dL_rest_18 (by decide +kernel) ?_
  refine sw_ret (v := some _) ⟨dL_rest_19, _, rfl, rfl⟩ ?_
  exact lp_t pe pR pF zg1 (fun i h1 => (congrFun eg1 i).trans ((up_n h1).trans (rfl))) pk
theorem ox_keepRest {σ : CS} {a x : Int32} : OX [sI, sS] (opKeepRest σ a x) := by
  unfold opKeepRest
  repeat' first
    | with_reducible exact ox_i
    | with_reducible exact ox_I mm_IS_I
    | with_reducible exact ox_S mm_IS_S
    | with_reducible refine ox_Sh mm_IS_I (fun _ => ?_)
    | with_reducible refine ox_Wk mm_IS_I (fun _ => ?_)
    | with_reducible refine ox_Rw mm_IS_I (fun _ => ?_)
    | with_reducible refine ox_Li mm_IS_I (fun _ => ?_)
    | with_reducible refine ox_if ?_ ?_
    | exact ox_i
    | exact ox_I mm_IS_I
    | exact ox_S mm_IS_S
    | refine ox_Sh mm_IS_I (fun _ => ?_)
    | refine ox_Wk mm_IS_I (fun _ => ?_)
    | refine ox_Rw mm_IS_I (fun _ => ?_)
    | refine ox_Li mm_IS_I (fun _ => ?_)
    | refine ox_if ?_ ?_
    | split
theorem L_keepRest {h : AH} {d bc bs n N : Nat} {σ : CS} {a x : Int32} {w : Int64} {s : Value} (hR : RC h σ) (hT : TXT h) (hV : IV σ N) (hN : N < 2 ^ 31) (hO : h 158 = .inr (5, [.long w, s])) (hn : 159 ≤ n) (hd : 12 ≤ d) (h1 : 60 ≤ bc) (h2 : 400 ≤ bs) : SM SR0 ML_keepRest d bc bs [.ref 100, .int a, .int x, .ref 158] h n (LPo h n (tc sI sS) (opKeepRest σ a x)) := by
  refine sm_ofH pn_OverwalksLaw (by decide +kernel) (Nat.le_of_ble_eq_true rfl) ?_
  refine sw_aload_n (pc' := 1) rfl dL_keepRest_0 rfl ?_
  refine sw_aload_n (pc' := 2) rfl dL_keepRest_1 rfl ?_
  refine sw_iload_n (pc' := 3) rfl dL_keepRest_2 rfl ?_
  refine sw_iload_n (pc' := 4) rfl dL_keepRest_3 rfl ?_
  refine sw_V (M' := MX3_keepRest) (d' := d - 1) (bc' := 20) (bs' := 200) (ci := 4) (as := [_, _]) dL_keepRest_4 w_955 ok_X3_keepRest (m_keepRest hR (by omega) (Nat.le_refl _) (Nat.le_refl _) (hV.iv hN).2.2.2.2.2.2.2) hR.1 rfl (by omega) (Nat.le_of_ble_eq_true rfl) (by omega) (by omega) (cp_e ox_keepRest (all2 (fun p pe pR pF => ?_) (fun p pe pR pF => ?_))) (cp_n ox_keepRest (fun p v pe pR pF => ?_))
  · refine swx_catchW (E := "java/lang/IndexOutOfBoundsException") (pre := []) (suf := [(0, 11, 18, 23)]) (x := (0, 11, 14, 19)) (k0 := 4) (lv' := [(0, _), (1, _), (2, _), (3, _)]) rfl (pas0) (by decide +kernel) (by decide +kernel) w_395 v_325 dL_keepRest_14 (by decide +kernel) rfl ?_
    refine sw_iconst (pc' := 17) (v := 1) rfl dL_keepRest_16 (by decide +kernel) ?_
    refine sw_ret (v := some _) ⟨dL_keepRest_17, _, rfl, rfl⟩ ?_
    exact lp_x pe tc_1 pR pF hO hn (Nat.le_refl _)
  · refine swx_catchW (E := "java/lang/IllegalStateException") (pre := [(0, 11, 14, 19)]) (suf := []) (x := (0, 11, 18, 23)) (k0 := 4) (lv' := [(0, _), (1, _), (2, _), (3, _)]) rfl (pas1 ⟨by decide +kernel, _, w_395, .tail _ (.tail _ (.tail _ (.tail _ (.head _))))⟩) (by decide +kernel) (by decide +kernel) w_397 v_378 dL_keepRest_18 (by decide +kernel) rfl ?_
    refine sw_iconst (pc' := 21) (v := 2) rfl dL_keepRest_20 (by decide +kernel) ?_
    refine sw_ret (v := some _) ⟨dL_keepRest_21, _, rfl, rfl⟩ ?_
    exact lp_x pe (tc_2 sSI) pR pF hO hn (Nat.le_refl _)
  refine sw_i2l (pc' := 8) rfl dL_keepRest_7 ?_
  refine sw_putN (ci := 5) (k := 0) (pc' := 11) rfl dL_keepRest_8 (by decide +kernel) (by decide +kernel) v_347 rfl ((pF 158 (by omega) (by omega)).trans hO) (by show 100 ≤ _; omega) (Nat.le_of_ble_eq_true rfl) rfl rfl ?_
  refine sw_nm (fun g1 eg1 => ?_)
  have zg1 := (congrFun eg1 158).trans (up_s (h := p) (i := 158))
  refine sw_goto (tgt := 22) dL_keepRest_11 (by decide +kernel) ?_
  refine sw_iconst (pc' := 23) (v := 0) rfl dL_keepRest_22 (by decide +kernel) ?_
  refine sw_ret (v := some _) ⟨dL_keepRest_23, _, rfl, rfl⟩ ?_
  exact lp_v pe pR pF zg1 rfl (fun i h1 => (congrFun eg1 i).trans ((up_n h1).trans (rfl)))
theorem ox_keep {σ : CS} {a x : Int32} : OX [sI] (opKeep σ a x) := by
  unfold opKeep
  repeat' first
    | with_reducible exact ox_i
    | with_reducible exact ox_I mm_I_I
    | with_reducible refine ox_Sh mm_I_I (fun _ => ?_)
    | with_reducible refine ox_Wk mm_I_I (fun _ => ?_)
    | with_reducible refine ox_Rw mm_I_I (fun _ => ?_)
    | with_reducible refine ox_Li mm_I_I (fun _ => ?_)
    | with_reducible refine ox_if ?_ ?_
    | exact ox_i
    | exact ox_I mm_I_I
    | refine ox_Sh mm_I_I (fun _ => ?_)
    | refine ox_Wk mm_I_I (fun _ => ?_)
    | refine ox_Rw mm_I_I (fun _ => ?_)
    | refine ox_Li mm_I_I (fun _ => ?_)
    | refine ox_if ?_ ?_
    | split
theorem L_keep {h : AH} {d bc bs n N : Nat} {σ : CS} {a x : Int32} {w : Int64} {s : Value} (hR : RC h σ) (hT : TXT h) (hV : IV σ N) (hN : N < 2 ^ 31) (hO : h 158 = .inr (5, [.long w, s])) (hn : 159 ≤ n) (hd : 12 ≤ d) (h1 : 60 ≤ bc) (h2 : 400 ≤ bs) : SM SR0 ML_keep d bc bs [.ref 100, .int a, .int x, .ref 158] h n (LPo h n (tc sI sI) (opKeep σ a x)) := by
  refine sm_ofH pn_OverwalksLaw (by decide +kernel) (Nat.le_of_ble_eq_true rfl) ?_
  refine sw_aload_n (pc' := 1) rfl dL_keep_0 rfl ?_
  refine sw_aload_n (pc' := 2) rfl dL_keep_1 rfl ?_
  refine sw_iload_n (pc' := 3) rfl dL_keep_2 rfl ?_
  refine sw_iload_n (pc' := 4) rfl dL_keep_3 rfl ?_
  refine sw_V (M' := MX3_keep) (d' := d - 1) (bc' := 20) (bs' := 200) (ci := 4) (as := [_, _]) dL_keep_4 w_967 ok_X3_keep (m_keep hR (by omega) (Nat.le_refl _) (Nat.le_refl _)) hR.1 rfl (by omega) (Nat.le_of_ble_eq_true rfl) (by omega) (by omega) (cp_e ox_keep (all1 (fun p pe pR pF => ?_))) (cp_n ox_keep (fun p v pe pR pF => ?_))
  · refine swx_catchW (E := "java/lang/IndexOutOfBoundsException") (pre := []) (suf := []) (x := (0, 11, 14, 19)) (k0 := 4) (lv' := [(0, _), (1, _), (2, _), (3, _)]) rfl (pas0) (by decide +kernel) (by decide +kernel) w_395 v_325 dL_keep_14 (by decide +kernel) rfl ?_
    refine sw_iconst (pc' := 17) (v := 1) rfl dL_keep_16 (by decide +kernel) ?_
    refine sw_ret (v := some _) ⟨dL_keep_17, _, rfl, rfl⟩ ?_
    exact lp_x pe tc_1 pR pF hO hn (Nat.le_refl _)
  refine sw_i2l (pc' := 8) rfl dL_keep_7 ?_
  refine sw_putN (ci := 5) (k := 0) (pc' := 11) rfl dL_keep_8 (by decide +kernel) (by decide +kernel) v_347 rfl ((pF 158 (by omega) (by omega)).trans hO) (by show 100 ≤ _; omega) (Nat.le_of_ble_eq_true rfl) rfl rfl ?_
  refine sw_nm (fun g1 eg1 => ?_)
  have zg1 := (congrFun eg1 158).trans (up_s (h := p) (i := 158))
  refine sw_goto (tgt := 18) dL_keep_11 (by decide +kernel) ?_
  refine sw_iconst (pc' := 19) (v := 0) rfl dL_keep_18 (by decide +kernel) ?_
  refine sw_ret (v := some _) ⟨dL_keep_19, _, rfl, rfl⟩ ?_
  exact lp_v pe pR pF zg1 rfl (fun i h1 => (congrFun eg1 i).trans ((up_n h1).trans (rfl)))
theorem ox_drop {σ : CS} {a : Int32} : OX [sI] (opDrop σ a) := by
  unfold opDrop
  repeat' first
    | with_reducible exact ox_i
    | with_reducible exact ox_I mm_I_I
    | with_reducible refine ox_Sh mm_I_I (fun _ => ?_)
    | with_reducible refine ox_Wk mm_I_I (fun _ => ?_)
    | with_reducible refine ox_Rw mm_I_I (fun _ => ?_)
    | with_reducible refine ox_Li mm_I_I (fun _ => ?_)
    | with_reducible refine ox_if ?_ ?_
    | exact ox_i
    | exact ox_I mm_I_I
    | refine ox_Sh mm_I_I (fun _ => ?_)
    | refine ox_Wk mm_I_I (fun _ => ?_)
    | refine ox_Rw mm_I_I (fun _ => ?_)
    | refine ox_Li mm_I_I (fun _ => ?_)
    | refine ox_if ?_ ?_
    | split
theorem L_drop {h : AH} {d bc bs n N : Nat} {σ : CS} {a : Int32} {w : Int64} {s : Value} (hR : RC h σ) (hT : TXT h) (hV : IV σ N) (hN : N < 2 ^ 31) (hO : h 158 = .inr (5, [.long w, s])) (hn : 159 ≤ n) (hd : 12 ≤ d) (h1 : 60 ≤ bc) (h2 : 400 ≤ bs) : SM SR0 ML_drop d bc bs [.ref 100, .int a, .ref 158] h n (LPo h n (tc sI sI) (opDrop σ a)) := by
  refine sm_ofH pn_OverwalksLaw (by decide +kernel) (Nat.le_of_ble_eq_true rfl) ?_
  refine sw_aload_n (pc' := 1) rfl dL_drop_0 rfl ?_
  refine sw_aload_n (pc' := 2) rfl dL_drop_1 rfl ?_
  refine sw_iload_n (pc' := 3) rfl dL_drop_2 rfl ?_
  refine sw_V (M' := MX3_drop) (d' := d - 1) (bc' := 20) (bs' := 200) (ci := 4) (as := [_]) dL_drop_3 w_974 ok_X3_drop (m_drop hR (by omega) (Nat.le_refl _) (Nat.le_refl _)) hR.1 rfl (by omega) (Nat.le_of_ble_eq_true rfl) (by omega) (by omega) (cp_e ox_drop (all1 (fun p pe pR pF => ?_))) (cp_n ox_drop (fun p v pe pR pF => ?_))
  · refine swx_catch (E := "java/lang/IndexOutOfBoundsException") (pre := []) (suf := []) (x := (0, 10, 13, 19)) (k0 := 3) (lv' := [(0, _), (1, _), (2, _)]) rfl (pas0) (by decide +kernel) (by decide +kernel) w_395 v_325 dL_drop_13 (by decide +kernel) rfl ?_
    refine sw_iconst (pc' := 15) (v := 1) rfl dL_drop_14 (by decide +kernel) ?_
    refine sw_ret (v := some _) ⟨dL_drop_15, _, rfl, rfl⟩ ?_
    exact lp_x pe tc_1 pR pF hO hn (Nat.le_refl _)
  refine sw_i2l (pc' := 7) rfl dL_drop_6 ?_
  refine sw_putN (ci := 5) (k := 0) (pc' := 10) rfl dL_drop_7 (by decide +kernel) (by decide +kernel) v_347 rfl ((pF 158 (by omega) (by omega)).trans hO) (by show 100 ≤ _; omega) (Nat.le_of_ble_eq_true rfl) rfl rfl ?_
  refine sw_nm (fun g1 eg1 => ?_)
  have zg1 := (congrFun eg1 158).trans (up_s (h := p) (i := 158))
  refine sw_goto (tgt := 16) dL_drop_10 (by decide +kernel) ?_
  refine sw_iconst (pc' := 17) (v := 0) rfl dL_drop_16 (by decide +kernel) ?_
  refine sw_ret (v := some _) ⟨dL_drop_17, _, rfl, rfl⟩ ?_
  exact lp_v pe pR pF zg1 rfl (fun i h1 => (congrFun eg1 i).trans ((up_n h1).trans (rfl)))
theorem ox_skip {σ : CS} {a x : Int32} : OX [sI, sA, sS] (opSkip σ a x) := by
  unfold opSkip
  repeat' first
    | with_reducible exact ox_i
    | with_reducible exact ox_I mm_IAS_I
    | with_reducible exact ox_A mm_IAS_A
    | with_reducible exact ox_S mm_IAS_S
    | with_reducible refine ox_Sh mm_IAS_I (fun _ => ?_)
    | with_reducible refine ox_Wk mm_IAS_I (fun _ => ?_)
    | with_reducible refine ox_Rw mm_IAS_I (fun _ => ?_)
    | with_reducible refine ox_Li mm_IAS_I (fun _ => ?_)
    | with_reducible refine ox_if ?_ ?_
    | exact ox_i
    | exact ox_I mm_IAS_I
    | exact ox_A mm_IAS_A
    | exact ox_S mm_IAS_S
    | refine ox_Sh mm_IAS_I (fun _ => ?_)
    | refine ox_Wk mm_IAS_I (fun _ => ?_)
    | refine ox_Rw mm_IAS_I (fun _ => ?_)
    | refine ox_Li mm_IAS_I (fun _ => ?_)
    | refine ox_if ?_ ?_
    | split
theorem L_skip {h : AH} {d bc bs n N : Nat} {σ : CS} {a x : Int32} {w : Int64} {s : Value} (hR : RC h σ) (hT : TXT h) (hV : IV σ N) (hN : N < 2 ^ 31) (hO : h 158 = .inr (5, [.long w, s])) (hn : 159 ≤ n) (hd : 12 ≤ d) (h1 : 60 ≤ bc) (h2 : 400 ≤ bs) : SM SR0 ML_skip d bc bs [.ref 100, .int a, .int x, .ref 158] h n (LPo h n (tc sI sA) (opSkip σ a x)) := by
  refine sm_ofH pn_OverwalksLaw (by decide +kernel) (Nat.le_of_ble_eq_true rfl) ?_
  refine sw_aload_n (pc' := 1) rfl dL_skip_0 rfl ?_
  refine sw_aload_n (pc' := 2) rfl dL_skip_1 rfl ?_
  refine sw_iload_n (pc' := 3) rfl dL_skip_2 rfl ?_
  refine sw_iload_n (pc' := 4) rfl dL_skip_3 rfl ?_
  refine sw_V (M' := MX3_skip) (d' := d - 1) (bc' := 20) (bs' := 200) (ci := 4) (as := [_, _]) dL_skip_4 w_981 ok_X3_skip (m_skip hR (by omega) (Nat.le_refl _) (Nat.le_refl _)) hR.1 rfl (by omega) (Nat.le_of_ble_eq_true rfl) (by omega) (by omega) (cp_e ox_skip (all3 (fun p pe pR pF => ?_) (fun p pe pR pF => ?_) (fun p pe pR pF => ?_))) (cp_n ox_skip (fun p v pe pR pF => ?_))
  · refine swx_catchW (E := "java/lang/IndexOutOfBoundsException") (pre := []) (suf := [(0, 11, 18, 21), (0, 11, 22, 23)]) (x := (0, 11, 14, 19)) (k0 := 4) (lv' := [(0, _), (1, _), (2, _), (3, _)]) rfl (pas0) (by decide +kernel) (by decide +kernel) w_395 v_325 dL_skip_14 (by decide +kernel) rfl ?_
    refine sw_iconst (pc' := 17) (v := 1) rfl dL_skip_16 (by decide +kernel) ?_
    refine sw_ret (v := some _) ⟨dL_skip_17, _, rfl, rfl⟩ ?_
    exact lp_x pe tc_1 pR pF hO hn (Nat.le_refl _)
  · refine swx_catchW (E := "java/lang/IllegalArgumentException") (pre := [(0, 11, 14, 19)]) (suf := [(0, 11, 22, 23)]) (x := (0, 11, 18, 21)) (k0 := 4) (lv' := [(0, _), (1, _), (2, _), (3, _)]) rfl (pas1 ⟨by decide +kernel, _, w_395, .tail _ (.tail _ (.head _))⟩) (by decide +kernel) (by decide +kernel) w_396 v_249 dL_skip_18 (by decide +kernel) rfl ?_
    refine sw_iconst (pc' := 21) (v := 2) rfl dL_skip_20 (by decide +kernel) ?_
    refine sw_ret (v := some _) ⟨dL_skip_21, _, rfl, rfl⟩ ?_
    exact lp_x pe (tc_2 sAI) pR pF hO hn (Nat.le_refl _)
  · refine swx_catchW (E := "java/lang/IllegalStateException") (pre := [(0, 11, 14, 19), (0, 11, 18, 21)]) (suf := []) (x := (0, 11, 22, 23)) (k0 := 4) (lv' := [(0, _), (1, _), (2, _), (3, _)]) rfl (pas2 ⟨by decide +kernel, _, w_395, .tail _ (.tail _ (.tail _ (.tail _ (.head _))))⟩ ⟨by decide +kernel, _, w_396, .tail _ (.tail _ (.tail _ (.tail _ (.tail _ (.head _)))))⟩) (by decide +kernel) (by decide +kernel) w_397 v_378 dL_skip_22 (by decide +kernel) rfl ?_
    refine sw_iconst (pc' := 25) (v := 3) rfl dL_skip_24 (by decide +kernel) ?_
    refine sw_ret (v := some _) ⟨dL_skip_25, _, rfl, rfl⟩ ?_
    exact lp_x pe (tc_3 sSI sSA) pR pF hO hn (Nat.le_refl _)
  refine sw_i2l (pc' := 8) rfl dL_skip_7 ?_
  refine sw_putN (ci := 5) (k := 0) (pc' := 11) rfl dL_skip_8 (by decide +kernel) (by decide +kernel) v_347 rfl ((pF 158 (by omega) (by omega)).trans hO) (by show 100 ≤ _; omega) (Nat.le_of_ble_eq_true rfl) rfl rfl ?_
  refine sw_nm (fun g1 eg1 => ?_)
  have zg1 := (congrFun eg1 158).trans (up_s (h := p) (i := 158))
  refine sw_goto (tgt := 26) dL_skip_11 (by decide +kernel) ?_
  refine sw_iconst (pc' := 27) (v := 0) rfl dL_skip_26 (by decide +kernel) ?_
  refine sw_ret (v := some _) ⟨dL_skip_27, _, rfl, rfl⟩ ?_
  exact lp_v pe pR pF zg1 rfl (fun i h1 => (congrFun eg1 i).trans ((up_n h1).trans (rfl)))
theorem ox_pourRest {σ : CS} {a x : Int32} : OX [sI, sS] (opPourRest σ a x) := by
  unfold opPourRest
  repeat' first
    | with_reducible exact ox_i
    | with_reducible exact ox_I mm_IS_I
    | with_reducible exact ox_S mm_IS_S
    | with_reducible refine ox_Sh mm_IS_I (fun _ => ?_)
    | with_reducible refine ox_Wk mm_IS_I (fun _ => ?_)
    | with_reducible refine ox_Rw mm_IS_I (fun _ => ?_)
    | with_reducible refine ox_Li mm_IS_I (fun _ => ?_)
    | with_reducible refine ox_if ?_ ?_
    | exact ox_i
    | exact ox_I mm_IS_I
    | exact ox_S mm_IS_S
    | refine ox_Sh mm_IS_I (fun _ => ?_)
    | refine ox_Wk mm_IS_I (fun _ => ?_)
    | refine ox_Rw mm_IS_I (fun _ => ?_)
    | refine ox_Li mm_IS_I (fun _ => ?_)
    | refine ox_if ?_ ?_
    | split
theorem L_pourRest {h : AH} {d bc bs n N : Nat} {σ : CS} {a x : Int32} {w : Int64} {s : Value} (hR : RC h σ) (hT : TXT h) (hV : IV σ N) (hN : N < 2 ^ 31) (hO : h 158 = .inr (5, [.long w, s])) (hn : 159 ≤ n) (hd : 12 ≤ d) (h1 : 60 ≤ bc) (h2 : 400 ≤ bs) : SM SR0 ML_pourRest d bc bs [.ref 100, .int a, .int x, .ref 158] h n (LPo h n (tc sI sS) (opPourRest σ a x)) := by
  refine sm_ofH pn_OverwalksLaw (by decide +kernel) (Nat.le_of_ble_eq_true rfl) ?_
  refine sw_aload_n (pc' := 1) rfl dL_pourRest_0 rfl ?_
  refine sw_aload_n (pc' := 2) rfl dL_pourRest_1 rfl ?_
  refine sw_iload_n (pc' := 3) rfl dL_pourRest_2 rfl ?_
  refine sw_iload_n (pc' := 4) rfl dL_pourRest_3 rfl ?_
  refine sw_V (M' := MX3_pourRest) (d' := d - 1) (bc' := 20) (bs' := 200) (ci := 4) (as := [_, _]) dL_pourRest_4 w_988 ok_X3_pourRest (m_pourRest hR (by omega) (Nat.le_refl _) (Nat.le_refl _) (hV.iv hN).2.2.2.2.2.2.2) hR.1 rfl (by omega) (Nat.le_of_ble_eq_true rfl) (by omega) (by omega) (cp_e ox_pourRest (all2 (fun p pe pR pF => ?_) (fun p pe pR pF => ?_))) (cp_n ox_pourRest (fun p v pe pR pF => ?_))
  · refine swx_catchW (E := "java/lang/IndexOutOfBoundsException") (pre := []) (suf := [(0, 11, 18, 23)]) (x := (0, 11, 14, 19)) (k0 := 4) (lv' := [(0, _), (1, _), (2, _), (3, _)]) rfl (pas0) (by decide +kernel) (by decide +kernel) w_395 v_325 dL_pourRest_14 (by decide +kernel) rfl ?_
    refine sw_iconst (pc' := 17) (v := 1) rfl dL_pourRest_16 (by decide +kernel) ?_
    refine sw_ret (v := some _) ⟨dL_pourRest_17, _, rfl, rfl⟩ ?_
    exact lp_x pe tc_1 pR pF hO hn (Nat.le_refl _)
  · refine swx_catchW (E := "java/lang/IllegalStateException") (pre := [(0, 11, 14, 19)]) (suf := []) (x := (0, 11, 18, 23)) (k0 := 4) (lv' := [(0, _), (1, _), (2, _), (3, _)]) rfl (pas1 ⟨by decide +kernel, _, w_395, .tail _ (.tail _ (.tail _ (.tail _ (.head _))))⟩) (by decide +kernel) (by decide +kernel) w_397 v_378 dL_pourRest_18 (by decide +kernel) rfl ?_
    refine sw_iconst (pc' := 21) (v := 2) rfl dL_pourRest_20 (by decide +kernel) ?_
    refine sw_ret (v := some _) ⟨dL_pourRest_21, _, rfl, rfl⟩ ?_
    exact lp_x pe (tc_2 sSI) pR pF hO hn (Nat.le_refl _)
  refine sw_i2l (pc' := 8) rfl dL_pourRest_7 ?_
  refine sw_putN (ci := 5) (k := 0) (pc' := 11) rfl dL_pourRest_8 (by decide +kernel) (by decide +kernel) v_347 rfl ((pF 158 (by omega) (by omega)).trans hO) (by show 100 ≤ _; omega) (Nat.le_of_ble_eq_true rfl) rfl rfl ?_
  refine sw_nm (fun g1 eg1 => ?_)
  have zg1 := (congrFun eg1 158).trans (up_s (h := p) (i := 158))
  refine sw_goto (tgt := 22) dL_pourRest_11 (by decide +kernel) ?_
  refine sw_iconst (pc' := 23) (v := 0) rfl dL_pourRest_22 (by decide +kernel) ?_
  refine sw_ret (v := some _) ⟨dL_pourRest_23, _, rfl, rfl⟩ ?_
  exact lp_v pe pR pF zg1 rfl (fun i h1 => (congrFun eg1 i).trans ((up_n h1).trans (rfl)))
theorem ot_zip {σ : CS} {a x : Int32} : OT [sI, sA, sS] (opZip σ a x) := by
  unfold opZip
  repeat' first
    | with_reducible exact ot_t
    | with_reducible exact ot_I mm_IAS_I
    | with_reducible exact ot_A mm_IAS_A
    | with_reducible exact ot_S mm_IAS_S
    | with_reducible refine ot_Sh mm_IAS_I (fun _ => ?_)
    | with_reducible refine ot_Wk mm_IAS_I (fun _ => ?_)
    | with_reducible refine ot_if ?_ ?_
    | exact ot_t
    | exact ot_I mm_IAS_I
    | exact ot_A mm_IAS_A
    | exact ot_S mm_IAS_S
    | refine ot_Sh mm_IAS_I (fun _ => ?_)
    | refine ot_Wk mm_IAS_I (fun _ => ?_)
    | refine ot_if ?_ ?_
    | split
theorem L_zip {h : AH} {d bc bs n N : Nat} {σ : CS} {a x : Int32} {w : Int64} {s : Value} (hR : RC h σ) (hT : TXT h) (hV : IV σ N) (hN : N < 2 ^ 31) (hO : h 158 = .inr (5, [.long w, s])) (hn : 159 ≤ n) (hd : 12 ≤ d) (h1 : 60 ≤ bc) (h2 : 400 ≤ bs) : SM SR0 ML_zip d bc bs [.ref 100, .int a, .int x, .ref 158] h n (LPo h n (tc sI sA) (opZip σ a x)) := by
  refine sm_ofH pn_OverwalksLaw (by decide +kernel) (Nat.le_of_ble_eq_true rfl) ?_
  refine sw_aload_n (pc' := 1) rfl dL_zip_0 rfl ?_
  refine sw_aload_n (pc' := 2) rfl dL_zip_1 rfl ?_
  refine sw_iload_n (pc' := 3) rfl dL_zip_2 rfl ?_
  refine sw_iload_n (pc' := 4) rfl dL_zip_3 rfl ?_
  refine sw_V (M' := MX3_zip) (d' := d - 1) (bc' := 60) (bs' := 400) (ci := 4) (as := [_, _]) dL_zip_4 w_995 ok_X3_zip (m_zip hR hT hV hN (by omega) (by omega) (Nat.le_refl _) (Nat.le_refl _)) hR.1 rfl (by omega) (Nat.le_of_ble_eq_true rfl) (by omega) (by omega) (ct_e ot_zip (all3 (fun p pn pk pe pR pF => ?_) (fun p pn pk pe pR pF => ?_) (fun p pn pk pe pR pF => ?_))) (ct_n ot_zip (fun p pn x pk pe pR pF => ?_))
  · refine swx_catchW (E := "java/lang/IndexOutOfBoundsException") (pre := []) (suf := [(0, 10, 17, 21), (0, 10, 21, 23)]) (x := (0, 10, 13, 19)) (k0 := 4) (lv' := [(0, _), (1, _), (2, _), (3, _)]) rfl (pas0) (by decide +kernel) (by decide +kernel) w_395 v_325 dL_zip_13 (by decide +kernel) rfl ?_
    refine sw_iconst (pc' := 16) (v := 1) rfl dL_zip_15 (by decide +kernel) ?_
    refine sw_ret (v := some _) ⟨dL_zip_16, _, rfl, rfl⟩ ?_
    exact lp_x pe tc_1 pR pF hO hn pk
  · refine swx_catchW (E := "java/lang/IllegalArgumentException") (pre := [(0, 10, 13, 19)]) (suf := [(0, 10, 21, 23)]) (x := (0, 10, 17, 21)) (k0 := 4) (lv' := [(0, _), (1, _), (2, _), (3, _)]) rfl (pas1 ⟨by decide +kernel, _, w_395, .tail _ (.tail _ (.head _))⟩) (by decide +kernel) (by decide +kernel) w_396 v_249 dL_zip_17 (by decide +kernel) rfl ?_
    refine sw_iconst (pc' := 20) (v := 2) rfl dL_zip_19 (by decide +kernel) ?_
    refine sw_ret (v := some _) ⟨dL_zip_20, _, rfl, rfl⟩ ?_
    exact lp_x pe (tc_2 sAI) pR pF hO hn pk
  · refine swx_catchW (E := "java/lang/IllegalStateException") (pre := [(0, 10, 13, 19), (0, 10, 17, 21)]) (suf := []) (x := (0, 10, 21, 23)) (k0 := 4) (lv' := [(0, _), (1, _), (2, _), (3, _)]) rfl (pas2 ⟨by decide +kernel, _, w_395, .tail _ (.tail _ (.tail _ (.tail _ (.head _))))⟩ ⟨by decide +kernel, _, w_396, .tail _ (.tail _ (.tail _ (.tail _ (.tail _ (.head _)))))⟩) (by decide +kernel) (by decide +kernel) w_397 v_378 dL_zip_21 (by decide +kernel) rfl ?_
    refine sw_iconst (pc' := 24) (v := 3) rfl dL_zip_23 (by decide +kernel) ?_
    refine sw_ret (v := some _) ⟨dL_zip_24, _, rfl, rfl⟩ ?_
    exact lp_x pe (tc_3 sSI sSA) pR pF hO hn pk
  refine sw_putN (ci := 5) (k := 1) (pc' := 10) rfl dL_zip_7 (by decide +kernel) (by decide +kernel) v_348 rfl ((pF 158 (by omega) (by omega)).trans hO) (by show 100 ≤ _; omega) (Nat.le_of_ble_eq_true rfl) rfl rfl ?_
  refine sw_nm (fun g1 eg1 => ?_)
  have zg1 := (congrFun eg1 158).trans (up_s (h := p) (i := 158))
  refine sw_goto (tgt := 25) dL_zip_10 (by decide +kernel) ?_
  refine sw_iconst (pc' := 26) (v := 0) rfl dL_zip_25 (by decide +kernel) ?_
  refine sw_ret (v := some _) ⟨dL_zip_26, _, rfl, rfl⟩ ?_
  exact lp_t pe pR pF zg1 (fun i h1 => (congrFun eg1 i).trans ((up_n h1).trans (rfl))) pk
theorem ot_text {σ : CS} {a : Int32} : OT [sI] (opText σ a) := by
  unfold opText
  repeat' first
    | with_reducible exact ot_t
    | with_reducible exact ot_I mm_I_I
    | with_reducible refine ot_Sh mm_I_I (fun _ => ?_)
    | with_reducible refine ot_Wk mm_I_I (fun _ => ?_)
    | with_reducible refine ot_if ?_ ?_
    | exact ot_t
    | exact ot_I mm_I_I
    | refine ot_Sh mm_I_I (fun _ => ?_)
    | refine ot_Wk mm_I_I (fun _ => ?_)
    | refine ot_if ?_ ?_
    | split
theorem L_text {h : AH} {d bc bs n N : Nat} {σ : CS} {a : Int32} {w : Int64} {s : Value} (hR : RC h σ) (hT : TXT h) (hV : IV σ N) (hN : N < 2 ^ 31) (hO : h 158 = .inr (5, [.long w, s])) (hn : 159 ≤ n) (hd : 12 ≤ d) (h1 : 60 ≤ bc) (h2 : 400 ≤ bs) : SM SR0 ML_text d bc bs [.ref 100, .int a, .ref 158] h n (LPo h n (tc sI sI) (opText σ a)) := by
  refine sm_ofH pn_OverwalksLaw (by decide +kernel) (Nat.le_of_ble_eq_true rfl) ?_
  refine sw_aload_n (pc' := 1) rfl dL_text_0 rfl ?_
  refine sw_aload_n (pc' := 2) rfl dL_text_1 rfl ?_
  refine sw_iload_n (pc' := 3) rfl dL_text_2 rfl ?_
  refine sw_V (M' := MX3_text) (d' := d - 1) (bc' := 60) (bs' := 400) (ci := 4) (as := [_]) dL_text_3 w_1003 ok_X3_text (m_text hR hT hV hN (by omega) (by omega) (Nat.le_refl _) (Nat.le_refl _)) hR.1 rfl (by omega) (Nat.le_of_ble_eq_true rfl) (by omega) (by omega) (ct_e ot_text (all1 (fun p pn pk pe pR pF => ?_))) (ct_n ot_text (fun p pn x pk pe pR pF => ?_))
  · refine swx_catch (E := "java/lang/IndexOutOfBoundsException") (pre := []) (suf := []) (x := (0, 9, 12, 19)) (k0 := 3) (lv' := [(0, _), (1, _), (2, _)]) rfl (pas0) (by decide +kernel) (by decide +kernel) w_395 v_325 dL_text_12 (by decide +kernel) rfl ?_
    refine sw_iconst (pc' := 14) (v := 1) rfl dL_text_13 (by decide +kernel) ?_
    refine sw_ret (v := some _) ⟨dL_text_14, _, rfl, rfl⟩ ?_
    exact lp_x pe tc_1 pR pF hO hn pk
  refine sw_putN (ci := 5) (k := 1) (pc' := 9) rfl dL_text_6 (by decide +kernel) (by decide +kernel) v_348 rfl ((pF 158 (by omega) (by omega)).trans hO) (by show 100 ≤ _; omega) (Nat.le_of_ble_eq_true rfl) rfl rfl ?_
  refine sw_nm (fun g1 eg1 => ?_)
  have zg1 := (congrFun eg1 158).trans (up_s (h := p) (i := 158))
  refine sw_goto (tgt := 15) dL_text_9 (by decide +kernel) ?_
  refine sw_iconst (pc' := 16) (v := 0) rfl dL_text_15 (by decide +kernel) ?_
  refine sw_ret (v := some _) ⟨dL_text_16, _, rfl, rfl⟩ ?_
  exact lp_t pe pR pF zg1 (fun i h1 => (congrFun eg1 i).trans ((up_n h1).trans (rfl))) pk
theorem ot_list {σ : CS} {a : Int32} : OT [sI] (opText σ a) := by
  unfold opText
  repeat' first
    | with_reducible exact ot_t
    | with_reducible exact ot_I mm_I_I
    | with_reducible refine ot_Sh mm_I_I (fun _ => ?_)
    | with_reducible refine ot_Wk mm_I_I (fun _ => ?_)
    | with_reducible refine ot_if ?_ ?_
    | exact ot_t
    | exact ot_I mm_I_I
    | refine ot_Sh mm_I_I (fun _ => ?_)
    | refine ot_Wk mm_I_I (fun _ => ?_)
    | refine ot_if ?_ ?_
    | split
theorem L_list {h : AH} {d bc bs n N : Nat} {σ : CS} {a : Int32} {w : Int64} {s : Value} (hR : RC h σ) (hT : TXT h) (hV : IV σ N) (hN : N < 2 ^ 31) (hO : h 158 = .inr (5, [.long w, s])) (hn : 159 ≤ n) (hd : 12 ≤ d) (h1 : 60 ≤ bc) (h2 : 400 ≤ bs) : SM SR0 ML_list d bc bs [.ref 100, .int a, .ref 158] h n (LPo h n (tc sI sI) (opText σ a)) := by
  refine sm_ofH pn_OverwalksLaw (by decide +kernel) (Nat.le_of_ble_eq_true rfl) ?_
  refine sw_aload_n (pc' := 1) rfl dL_list_0 rfl ?_
  refine sw_aload_n (pc' := 2) rfl dL_list_1 rfl ?_
  refine sw_iload_n (pc' := 3) rfl dL_list_2 rfl ?_
  refine sw_V (M' := MX3_list) (d' := d - 1) (bc' := 60) (bs' := 400) (ci := 4) (as := [_]) dL_list_3 w_1010 ok_X3_list (m_list hR hT hV hN (by omega) (by omega) (Nat.le_refl _) (Nat.le_refl _)) hR.1 rfl (by omega) (Nat.le_of_ble_eq_true rfl) (by omega) (by omega) (ct_e ot_list (all1 (fun p pn pk pe pR pF => ?_))) (ct_n ot_list (fun p pn x pk pe pR pF => ?_))
  · refine swx_catch (E := "java/lang/IndexOutOfBoundsException") (pre := []) (suf := []) (x := (0, 9, 12, 19)) (k0 := 3) (lv' := [(0, _), (1, _), (2, _)]) rfl (pas0) (by decide +kernel) (by decide +kernel) w_395 v_325 dL_list_12 (by decide +kernel) rfl ?_
    refine sw_iconst (pc' := 14) (v := 1) rfl dL_list_13 (by decide +kernel) ?_
    refine sw_ret (v := some _) ⟨dL_list_14, _, rfl, rfl⟩ ?_
    exact lp_x pe tc_1 pR pF hO hn pk
  refine sw_putN (ci := 5) (k := 1) (pc' := 9) rfl dL_list_6 (by decide +kernel) (by decide +kernel) v_348 rfl ((pF 158 (by omega) (by omega)).trans hO) (by show 100 ≤ _; omega) (Nat.le_of_ble_eq_true rfl) rfl rfl ?_
  refine sw_nm (fun g1 eg1 => ?_)
  have zg1 := (congrFun eg1 158).trans (up_s (h := p) (i := 158))
  refine sw_goto (tgt := 15) dL_list_9 (by decide +kernel) ?_
  refine sw_iconst (pc' := 16) (v := 0) rfl dL_list_15 (by decide +kernel) ?_
  refine sw_ret (v := some _) ⟨dL_list_16, _, rfl, rfl⟩ ?_
  exact lp_t pe pR pF zg1 (fun i h1 => (congrFun eg1 i).trans ((up_n h1).trans (rfl))) pk
theorem ox_size {σ : CS} {a : Int32} : OX [sI] (opSize σ a) := by
  unfold opSize
  repeat' first
    | with_reducible exact ox_i
    | with_reducible exact ox_I mm_I_I
    | with_reducible refine ox_Sh mm_I_I (fun _ => ?_)
    | with_reducible refine ox_Wk mm_I_I (fun _ => ?_)
    | with_reducible refine ox_Rw mm_I_I (fun _ => ?_)
    | with_reducible refine ox_Li mm_I_I (fun _ => ?_)
    | with_reducible refine ox_if ?_ ?_
    | exact ox_i
    | exact ox_I mm_I_I
    | refine ox_Sh mm_I_I (fun _ => ?_)
    | refine ox_Wk mm_I_I (fun _ => ?_)
    | refine ox_Rw mm_I_I (fun _ => ?_)
    | refine ox_Li mm_I_I (fun _ => ?_)
    | refine ox_if ?_ ?_
    | split
theorem L_size {h : AH} {d bc bs n N : Nat} {σ : CS} {a : Int32} {w : Int64} {s : Value} (hR : RC h σ) (hT : TXT h) (hV : IV σ N) (hN : N < 2 ^ 31) (hO : h 158 = .inr (5, [.long w, s])) (hn : 159 ≤ n) (hd : 12 ≤ d) (h1 : 60 ≤ bc) (h2 : 400 ≤ bs) : SM SR0 ML_size d bc bs [.ref 100, .int a, .ref 158] h n (LPo h n (tc sI sI) (opSize σ a)) := by
  refine sm_ofH pn_OverwalksLaw (by decide +kernel) (Nat.le_of_ble_eq_true rfl) ?_
  refine sw_aload_n (pc' := 1) rfl dL_size_0 rfl ?_
  refine sw_aload_n (pc' := 2) rfl dL_size_1 rfl ?_
  refine sw_iload_n (pc' := 3) rfl dL_size_2 rfl ?_
  refine sw_V (M' := MX3_size) (d' := d - 1) (bc' := 20) (bs' := 200) (ci := 4) (as := [_]) dL_size_3 w_1017 ok_X3_size (m_size hR (by omega) (Nat.le_refl _) (Nat.le_refl _)) hR.1 rfl (by omega) (Nat.le_of_ble_eq_true rfl) (by omega) (by omega) (cp_e ox_size (all1 (fun p pe pR pF => ?_))) (cp_n ox_size (fun p v pe pR pF => ?_))
  · refine swx_catch (E := "java/lang/IndexOutOfBoundsException") (pre := []) (suf := []) (x := (0, 10, 13, 19)) (k0 := 3) (lv' := [(0, _), (1, _), (2, _)]) rfl (pas0) (by decide +kernel) (by decide +kernel) w_395 v_325 dL_size_13 (by decide +kernel) rfl ?_
    refine sw_iconst (pc' := 15) (v := 1) rfl dL_size_14 (by decide +kernel) ?_
    refine sw_ret (v := some _) ⟨dL_size_15, _, rfl, rfl⟩ ?_
    exact lp_x pe tc_1 pR pF hO hn (Nat.le_refl _)
  refine sw_i2l (pc' := 7) rfl dL_size_6 ?_
  refine sw_putN (ci := 5) (k := 0) (pc' := 10) rfl dL_size_7 (by decide +kernel) (by decide +kernel) v_347 rfl ((pF 158 (by omega) (by omega)).trans hO) (by show 100 ≤ _; omega) (Nat.le_of_ble_eq_true rfl) rfl rfl ?_
  refine sw_nm (fun g1 eg1 => ?_)
  have zg1 := (congrFun eg1 158).trans (up_s (h := p) (i := 158))
  refine sw_goto (tgt := 16) dL_size_10 (by decide +kernel) ?_
  refine sw_iconst (pc' := 17) (v := 0) rfl dL_size_16 (by decide +kernel) ?_
  refine sw_ret (v := some _) ⟨dL_size_17, _, rfl, rfl⟩ ?_
  exact lp_v pe pR pF zg1 rfl (fun i h1 => (congrFun eg1 i).trans ((up_n h1).trans (rfl)))
theorem ox_isEmpty {σ : CS} {a : Int32} : OX [sI] (opIsEmpty σ a) := by
  unfold opIsEmpty
  repeat' first
    | with_reducible exact ox_i
    | with_reducible exact ox_I mm_I_I
    | with_reducible refine ox_Sh mm_I_I (fun _ => ?_)
    | with_reducible refine ox_Wk mm_I_I (fun _ => ?_)
    | with_reducible refine ox_Rw mm_I_I (fun _ => ?_)
    | with_reducible refine ox_Li mm_I_I (fun _ => ?_)
    | with_reducible refine ox_if ?_ ?_
    | exact ox_i
    | exact ox_I mm_I_I
    | refine ox_Sh mm_I_I (fun _ => ?_)
    | refine ox_Wk mm_I_I (fun _ => ?_)
    | refine ox_Rw mm_I_I (fun _ => ?_)
    | refine ox_Li mm_I_I (fun _ => ?_)
    | refine ox_if ?_ ?_
    | split
theorem bo_isEmpty {σ : CS} {a : Int32} {v : Int32} (e : (opIsEmpty σ a).1 = rI v) : v = 0 ∨ v = 1 := by
  unfold opIsEmpty onSh at e
  split at e
  · cases e
  · cases e
    cases decide (σ.2.1 (a.toNatClampNeg) = 0)
    · exact Or.inl rfl
    · exact Or.inr rfl
theorem L_isEmpty {h : AH} {d bc bs n N : Nat} {σ : CS} {a : Int32} {w : Int64} {s : Value} (hR : RC h σ) (hT : TXT h) (hV : IV σ N) (hN : N < 2 ^ 31) (hO : h 158 = .inr (5, [.long w, s])) (hn : 159 ≤ n) (hd : 12 ≤ d) (h1 : 60 ≤ bc) (h2 : 400 ≤ bs) : SM SR0 ML_isEmpty d bc bs [.ref 100, .int a, .ref 158] h n (LPo h n (tc sI sI) (opIsEmpty σ a)) := by
  refine sm_ofH pn_OverwalksLaw (by decide +kernel) (Nat.le_of_ble_eq_true rfl) ?_
  refine sw_aload_n (pc' := 1) rfl dL_isEmpty_0 rfl ?_
  refine sw_aload_n (pc' := 2) rfl dL_isEmpty_1 rfl ?_
  refine sw_iload_n (pc' := 3) rfl dL_isEmpty_2 rfl ?_
  refine sw_V (M' := MX3_isEmpty) (d' := d - 1) (bc' := 20) (bs' := 200) (ci := 4) (as := [_]) dL_isEmpty_3 w_1024 ok_X3_isEmpty (m_isEmpty hR (by omega) (Nat.le_refl _) (Nat.le_refl _)) hR.1 rfl (by omega) (Nat.le_of_ble_eq_true rfl) (by omega) (by omega) (cp_e ox_isEmpty (all1 (fun p pe pR pF => ?_))) (cp_n ox_isEmpty (fun p v pe pR pF => ?_))
  · refine swx_catch (E := "java/lang/IndexOutOfBoundsException") (pre := []) (suf := []) (x := (0, 17, 20, 19)) (k0 := 3) (lv' := [(0, _), (1, _), (2, _)]) rfl (pas0) (by decide +kernel) (by decide +kernel) w_395 v_325 dL_isEmpty_20 (by decide +kernel) rfl ?_
    refine sw_iconst (pc' := 22) (v := 1) rfl dL_isEmpty_21 (by decide +kernel) ?_
    refine sw_ret (v := some _) ⟨dL_isEmpty_22, _, rfl, rfl⟩ ?_
    exact lp_x pe tc_1 pR pF hO hn (Nat.le_refl _)
  refine sw_if_eq (pc' := 9) (tgt := 13) rfl dL_isEmpty_6 (by decide +kernel) (fun c6 => ?_) (fun c6 => ?_)
  · refine sw_lconst (pc' := 14) (v := 0) rfl dL_isEmpty_13 (by decide +kernel) ?_
    refine sw_putN (ci := 5) (k := 0) (pc' := 17) rfl dL_isEmpty_14 (by decide +kernel) (by decide +kernel) v_347 rfl ((pF 158 (by omega) (by omega)).trans hO) (by show 100 ≤ _; omega) (Nat.le_of_ble_eq_true rfl) rfl rfl ?_
    refine sw_nm (fun g1 eg1 => ?_)
    have zg1 := (congrFun eg1 158).trans (up_s (h := p) (i := 158))
    refine sw_goto (tgt := 23) dL_isEmpty_17 (by decide +kernel) ?_
    refine sw_iconst (pc' := 24) (v := 0) rfl dL_isEmpty_23 (by decide +kernel) ?_
    refine sw_ret (v := some _) ⟨dL_isEmpty_24, _, rfl, rfl⟩ ?_
    exact lp_v pe pR pF zg1 (by rw [c6]; rfl) (fun i h1 => (congrFun eg1 i).trans ((up_n h1).trans (rfl)))
  · refine sw_lconst (pc' := 10) (v := 1) rfl dL_isEmpty_9 (by decide +kernel) ?_
    refine sw_goto (tgt := 14) dL_isEmpty_10 (by decide +kernel) ?_
    refine sw_putN (ci := 5) (k := 0) (pc' := 17) rfl dL_isEmpty_14 (by decide +kernel) (by decide +kernel) v_347 rfl ((pF 158 (by omega) (by omega)).trans hO) (by show 100 ≤ _; omega) (Nat.le_of_ble_eq_true rfl) rfl rfl ?_
    refine sw_nm (fun g2 eg2 => ?_)
    have zg2 := (congrFun eg2 158).trans (up_s (h := p) (i := 158))
    refine sw_goto (tgt := 23) dL_isEmpty_17 (by decide +kernel) ?_
    refine sw_iconst (pc' := 24) (v := 0) rfl dL_isEmpty_23 (by decide +kernel) ?_
    refine sw_ret (v := some _) ⟨dL_isEmpty_24, _, rfl, rfl⟩ ?_
    exact lp_v pe pR pF zg2 ((bo_isEmpty pe).elim (fun e => absurd e c6) (fun e => by rw [e]; rfl)) (fun i h1 => (congrFun eg2 i).trans ((up_n h1).trans (rfl)))
theorem ox_has {σ : CS} {a x : Int32} : OX [sI, sA] (opHas σ a x) := by
  unfold opHas
  repeat' first
    | with_reducible exact ox_i
    | with_reducible exact ox_I mm_IA_I
    | with_reducible exact ox_A mm_IA_A
    | with_reducible refine ox_Sh mm_IA_I (fun _ => ?_)
    | with_reducible refine ox_Wk mm_IA_I (fun _ => ?_)
    | with_reducible refine ox_Rw mm_IA_I (fun _ => ?_)
    | with_reducible refine ox_Li mm_IA_I (fun _ => ?_)
    | with_reducible refine ox_if ?_ ?_
    | exact ox_i
    | exact ox_I mm_IA_I
    | exact ox_A mm_IA_A
    | refine ox_Sh mm_IA_I (fun _ => ?_)
    | refine ox_Wk mm_IA_I (fun _ => ?_)
    | refine ox_Rw mm_IA_I (fun _ => ?_)
    | refine ox_Li mm_IA_I (fun _ => ?_)
    | refine ox_if ?_ ?_
    | split
theorem L_has {h : AH} {d bc bs n N : Nat} {σ : CS} {a x : Int32} {w : Int64} {s : Value} (hR : RC h σ) (hT : TXT h) (hV : IV σ N) (hN : N < 2 ^ 31) (hO : h 158 = .inr (5, [.long w, s])) (hn : 159 ≤ n) (hd : 12 ≤ d) (h1 : 60 ≤ bc) (h2 : 400 ≤ bs) : SM SR0 ML_has d bc bs [.ref 100, .int a, .int x, .ref 158] h n (LPo h n (tc sI sA) (opHas σ a x)) := by
  refine sm_ofH pn_OverwalksLaw (by decide +kernel) (Nat.le_of_ble_eq_true rfl) ?_
  refine sw_aload_n (pc' := 1) rfl dL_has_0 rfl ?_
  refine sw_aload_n (pc' := 2) rfl dL_has_1 rfl ?_
  refine sw_iload_n (pc' := 3) rfl dL_has_2 rfl ?_
  refine sw_iload_n (pc' := 4) rfl dL_has_3 rfl ?_
  refine sw_V (M' := MX3_has) (d' := d - 1) (bc' := 20) (bs' := 200) (ci := 4) (as := [_, _]) dL_has_4 w_1031 ok_X3_has (m_has hR (by omega) (Nat.le_refl _) (Nat.le_refl _)) hR.1 rfl (by omega) (Nat.le_of_ble_eq_true rfl) (by omega) (by omega) (cp_e ox_has (all2 (fun p pe pR pF => ?_) (fun p pe pR pF => ?_))) (cp_n ox_has (fun p v pe pR pF => ?_))
  · refine swx_catchW (E := "java/lang/IndexOutOfBoundsException") (pre := []) (suf := [(0, 11, 18, 21)]) (x := (0, 11, 14, 19)) (k0 := 4) (lv' := [(0, _), (1, _), (2, _), (3, _)]) rfl (pas0) (by decide +kernel) (by decide +kernel) w_395 v_325 dL_has_14 (by decide +kernel) rfl ?_
    refine sw_iconst (pc' := 17) (v := 1) rfl dL_has_16 (by decide +kernel) ?_
    refine sw_ret (v := some _) ⟨dL_has_17, _, rfl, rfl⟩ ?_
    exact lp_x pe tc_1 pR pF hO hn (Nat.le_refl _)
  · refine swx_catchW (E := "java/lang/IllegalArgumentException") (pre := [(0, 11, 14, 19)]) (suf := []) (x := (0, 11, 18, 21)) (k0 := 4) (lv' := [(0, _), (1, _), (2, _), (3, _)]) rfl (pas1 ⟨by decide +kernel, _, w_395, .tail _ (.tail _ (.head _))⟩) (by decide +kernel) (by decide +kernel) w_396 v_249 dL_has_18 (by decide +kernel) rfl ?_
    refine sw_iconst (pc' := 21) (v := 2) rfl dL_has_20 (by decide +kernel) ?_
    refine sw_ret (v := some _) ⟨dL_has_21, _, rfl, rfl⟩ ?_
    exact lp_x pe (tc_2 sAI) pR pF hO hn (Nat.le_refl _)
  refine sw_i2l (pc' := 8) rfl dL_has_7 ?_
  refine sw_putN (ci := 5) (k := 0) (pc' := 11) rfl dL_has_8 (by decide +kernel) (by decide +kernel) v_347 rfl ((pF 158 (by omega) (by omega)).trans hO) (by show 100 ≤ _; omega) (Nat.le_of_ble_eq_true rfl) rfl rfl ?_
  refine sw_nm (fun g1 eg1 => ?_)
  have zg1 := (congrFun eg1 158).trans (up_s (h := p) (i := 158))
  refine sw_goto (tgt := 22) dL_has_11 (by decide +kernel) ?_
  refine sw_iconst (pc' := 23) (v := 0) rfl dL_has_22 (by decide +kernel) ?_
  refine sw_ret (v := some _) ⟨dL_has_23, _, rfl, rfl⟩ ?_
  exact lp_v pe pR pF zg1 rfl (fun i h1 => (congrFun eg1 i).trans ((up_n h1).trans (rfl)))
theorem ox_often {σ : CS} {a x : Int32} : OX [sI, sA] (opOften σ a x) := by
  unfold opOften
  repeat' first
    | with_reducible exact ox_i
    | with_reducible exact ox_I mm_IA_I
    | with_reducible exact ox_A mm_IA_A
    | with_reducible refine ox_Sh mm_IA_I (fun _ => ?_)
    | with_reducible refine ox_Wk mm_IA_I (fun _ => ?_)
    | with_reducible refine ox_Rw mm_IA_I (fun _ => ?_)
    | with_reducible refine ox_Li mm_IA_I (fun _ => ?_)
    | with_reducible refine ox_if ?_ ?_
    | exact ox_i
    | exact ox_I mm_IA_I
    | exact ox_A mm_IA_A
    | refine ox_Sh mm_IA_I (fun _ => ?_)
    | refine ox_Wk mm_IA_I (fun _ => ?_)
    | refine ox_Rw mm_IA_I (fun _ => ?_)
    | refine ox_Li mm_IA_I (fun _ => ?_)
    | refine ox_if ?_ ?_
    | split
theorem L_often {h : AH} {d bc bs n N : Nat} {σ : CS} {a x : Int32} {w : Int64} {s : Value} (hR : RC h σ) (hT : TXT h) (hV : IV σ N) (hN : N < 2 ^ 31) (hO : h 158 = .inr (5, [.long w, s])) (hn : 159 ≤ n) (hd : 12 ≤ d) (h1 : 60 ≤ bc) (h2 : 400 ≤ bs) : SM SR0 ML_often d bc bs [.ref 100, .int a, .int x, .ref 158] h n (LPo h n (tc sI sA) (opOften σ a x)) := by
  refine sm_ofH pn_OverwalksLaw (by decide +kernel) (Nat.le_of_ble_eq_true rfl) ?_
  refine sw_aload_n (pc' := 1) rfl dL_often_0 rfl ?_
  refine sw_aload_n (pc' := 2) rfl dL_often_1 rfl ?_
  refine sw_iload_n (pc' := 3) rfl dL_often_2 rfl ?_
  refine sw_iload_n (pc' := 4) rfl dL_often_3 rfl ?_
  refine sw_V (M' := MX3_often) (d' := d - 1) (bc' := 20) (bs' := 200) (ci := 4) (as := [_, _]) dL_often_4 w_1038 ok_X3_often (m_often hR (by omega) (Nat.le_refl _) (Nat.le_refl _)) hR.1 rfl (by omega) (Nat.le_of_ble_eq_true rfl) (by omega) (by omega) (cp_e ox_often (all2 (fun p pe pR pF => ?_) (fun p pe pR pF => ?_))) (cp_n ox_often (fun p v pe pR pF => ?_))
  · refine swx_catchW (E := "java/lang/IndexOutOfBoundsException") (pre := []) (suf := [(0, 11, 18, 21)]) (x := (0, 11, 14, 19)) (k0 := 4) (lv' := [(0, _), (1, _), (2, _), (3, _)]) rfl (pas0) (by decide +kernel) (by decide +kernel) w_395 v_325 dL_often_14 (by decide +kernel) rfl ?_
    refine sw_iconst (pc' := 17) (v := 1) rfl dL_often_16 (by decide +kernel) ?_
    refine sw_ret (v := some _) ⟨dL_often_17, _, rfl, rfl⟩ ?_
    exact lp_x pe tc_1 pR pF hO hn (Nat.le_refl _)
  · refine swx_catchW (E := "java/lang/IllegalArgumentException") (pre := [(0, 11, 14, 19)]) (suf := []) (x := (0, 11, 18, 21)) (k0 := 4) (lv' := [(0, _), (1, _), (2, _), (3, _)]) rfl (pas1 ⟨by decide +kernel, _, w_395, .tail _ (.tail _ (.head _))⟩) (by decide +kernel) (by decide +kernel) w_396 v_249 dL_often_18 (by decide +kernel) rfl ?_
    refine sw_iconst (pc' := 21) (v := 2) rfl dL_often_20 (by decide +kernel) ?_
    refine sw_ret (v := some _) ⟨dL_often_21, _, rfl, rfl⟩ ?_
    exact lp_x pe (tc_2 sAI) pR pF hO hn (Nat.le_refl _)
  refine sw_i2l (pc' := 8) rfl dL_often_7 ?_
  refine sw_putN (ci := 5) (k := 0) (pc' := 11) rfl dL_often_8 (by decide +kernel) (by decide +kernel) v_347 rfl ((pF 158 (by omega) (by omega)).trans hO) (by show 100 ≤ _; omega) (Nat.le_of_ble_eq_true rfl) rfl rfl ?_
  refine sw_nm (fun g1 eg1 => ?_)
  have zg1 := (congrFun eg1 158).trans (up_s (h := p) (i := 158))
  refine sw_goto (tgt := 22) dL_often_11 (by decide +kernel) ?_
  refine sw_iconst (pc' := 23) (v := 0) rfl dL_often_22 (by decide +kernel) ?_
  refine sw_ret (v := some _) ⟨dL_often_23, _, rfl, rfl⟩ ?_
  exact lp_v pe pR pF zg1 rfl (fun i h1 => (congrFun eg1 i).trans ((up_n h1).trans (rfl)))
theorem ox_placeOf {σ : CS} {a x y : Int32} : OX [sI, sA] (opPlaceOf σ a x y) := by
  unfold opPlaceOf
  repeat' first
    | with_reducible exact ox_i
    | with_reducible exact ox_I mm_IA_I
    | with_reducible exact ox_A mm_IA_A
    | with_reducible refine ox_Sh mm_IA_I (fun _ => ?_)
    | with_reducible refine ox_Wk mm_IA_I (fun _ => ?_)
    | with_reducible refine ox_Rw mm_IA_I (fun _ => ?_)
    | with_reducible refine ox_Li mm_IA_I (fun _ => ?_)
    | with_reducible refine ox_if ?_ ?_
    | exact ox_i
    | exact ox_I mm_IA_I
    | exact ox_A mm_IA_A
    | refine ox_Sh mm_IA_I (fun _ => ?_)
    | refine ox_Wk mm_IA_I (fun _ => ?_)
    | refine ox_Rw mm_IA_I (fun _ => ?_)
    | refine ox_Li mm_IA_I (fun _ => ?_)
    | refine ox_if ?_ ?_
    | split
theorem L_placeOf {h : AH} {d bc bs n N : Nat} {σ : CS} {a x y : Int32} {w : Int64} {s : Value} (hR : RC h σ) (hT : TXT h) (hV : IV σ N) (hN : N < 2 ^ 31) (hO : h 158 = .inr (5, [.long w, s])) (hn : 159 ≤ n) (hd : 12 ≤ d) (h1 : 60 ≤ bc) (h2 : 400 ≤ bs) : SM SR0 ML_placeOf d bc bs [.ref 100, .int a, .int x, .int y, .ref 158] h n (LPo h n (tc sI sA) (opPlaceOf σ a x y)) := by
  refine sm_ofH pn_OverwalksLaw (by decide +kernel) (Nat.le_of_ble_eq_true rfl) ?_
  refine sw_aload (pc' := 2) rfl dL_placeOf_0 rfl ?_
  refine sw_aload_n (pc' := 3) rfl dL_placeOf_2 rfl ?_
  refine sw_iload_n (pc' := 4) rfl dL_placeOf_3 rfl ?_
  refine sw_iload_n (pc' := 5) rfl dL_placeOf_4 rfl ?_
  refine sw_iload_n (pc' := 6) rfl dL_placeOf_5 rfl ?_
  refine sw_V (M' := MX3_placeOf) (d' := d - 1) (bc' := 20) (bs' := 200) (ci := 4) (as := [_, _, _]) dL_placeOf_6 w_1045 ok_X3_placeOf (m_placeOf hR (by omega) (Nat.le_refl _) (Nat.le_refl _)) hR.1 rfl (by omega) (Nat.le_of_ble_eq_true rfl) (by omega) (by omega) (cp_e ox_placeOf (all2 (fun p pe pR pF => ?_) (fun p pe pR pF => ?_))) (cp_n ox_placeOf (fun p v pe pR pF => ?_))
  · refine swx_catchW (E := "java/lang/IndexOutOfBoundsException") (pre := []) (suf := [(0, 13, 20, 21)]) (x := (0, 13, 16, 19)) (k0 := 5) (lv' := [(0, _), (1, _), (2, _), (3, _), (4, _)]) rfl (pas0) (by decide +kernel) (by decide +kernel) w_395 v_325 dL_placeOf_16 (by decide +kernel) rfl ?_
    refine sw_iconst (pc' := 19) (v := 1) rfl dL_placeOf_18 (by decide +kernel) ?_
    refine sw_ret (v := some _) ⟨dL_placeOf_19, _, rfl, rfl⟩ ?_
    exact lp_x pe tc_1 pR pF hO hn (Nat.le_refl _)
  · refine swx_catchW (E := "java/lang/IllegalArgumentException") (pre := [(0, 13, 16, 19)]) (suf := []) (x := (0, 13, 20, 21)) (k0 := 5) (lv' := [(0, _), (1, _), (2, _), (3, _), (4, _)]) rfl (pas1 ⟨by decide +kernel, _, w_395, .tail _ (.tail _ (.head _))⟩) (by decide +kernel) (by decide +kernel) w_396 v_249 dL_placeOf_20 (by decide +kernel) rfl ?_
    refine sw_iconst (pc' := 23) (v := 2) rfl dL_placeOf_22 (by decide +kernel) ?_
    refine sw_ret (v := some _) ⟨dL_placeOf_23, _, rfl, rfl⟩ ?_
    exact lp_x pe (tc_2 sAI) pR pF hO hn (Nat.le_refl _)
  refine sw_i2l (pc' := 10) rfl dL_placeOf_9 ?_
  refine sw_putN (ci := 5) (k := 0) (pc' := 13) rfl dL_placeOf_10 (by decide +kernel) (by decide +kernel) v_347 rfl ((pF 158 (by omega) (by omega)).trans hO) (by show 100 ≤ _; omega) (Nat.le_of_ble_eq_true rfl) rfl rfl ?_
  refine sw_nm (fun g1 eg1 => ?_)
  have zg1 := (congrFun eg1 158).trans (up_s (h := p) (i := 158))
  refine sw_goto (tgt := 24) dL_placeOf_13 (by decide +kernel) ?_
  refine sw_iconst (pc' := 25) (v := 0) rfl dL_placeOf_24 (by decide +kernel) ?_
  refine sw_ret (v := some _) ⟨dL_placeOf_25, _, rfl, rfl⟩ ?_
  exact lp_v pe pR pF zg1 rfl (fun i h1 => (congrFun eg1 i).trans ((up_n h1).trans (rfl)))
theorem ox_disjoint {σ : CS} {a x : Int32} : OX [sI] (opDisjoint σ a x) := by
  unfold opDisjoint
  repeat' first
    | with_reducible exact ox_i
    | with_reducible exact ox_I mm_I_I
    | with_reducible refine ox_Sh mm_I_I (fun _ => ?_)
    | with_reducible refine ox_Wk mm_I_I (fun _ => ?_)
    | with_reducible refine ox_Rw mm_I_I (fun _ => ?_)
    | with_reducible refine ox_Li mm_I_I (fun _ => ?_)
    | with_reducible refine ox_if ?_ ?_
    | exact ox_i
    | exact ox_I mm_I_I
    | refine ox_Sh mm_I_I (fun _ => ?_)
    | refine ox_Wk mm_I_I (fun _ => ?_)
    | refine ox_Rw mm_I_I (fun _ => ?_)
    | refine ox_Li mm_I_I (fun _ => ?_)
    | refine ox_if ?_ ?_
    | split
theorem L_disjoint {h : AH} {d bc bs n N : Nat} {σ : CS} {a x : Int32} {w : Int64} {s : Value} (hR : RC h σ) (hT : TXT h) (hV : IV σ N) (hN : N < 2 ^ 31) (hO : h 158 = .inr (5, [.long w, s])) (hn : 159 ≤ n) (hd : 12 ≤ d) (h1 : 60 ≤ bc) (h2 : 400 ≤ bs) : SM SR0 ML_disjoint d bc bs [.ref 100, .int a, .int x, .ref 158] h n (LPo h n (tc sI sI) (opDisjoint σ a x)) := by
  refine sm_ofH pn_OverwalksLaw (by decide +kernel) (Nat.le_of_ble_eq_true rfl) ?_
  refine sw_aload_n (pc' := 1) rfl dL_disjoint_0 rfl ?_
  refine sw_aload_n (pc' := 2) rfl dL_disjoint_1 rfl ?_
  refine sw_iload_n (pc' := 3) rfl dL_disjoint_2 rfl ?_
  refine sw_iload_n (pc' := 4) rfl dL_disjoint_3 rfl ?_
  refine sw_V (M' := MX3_disjoint) (d' := d - 1) (bc' := 20) (bs' := 200) (ci := 4) (as := [_, _]) dL_disjoint_4 w_1056 ok_X3_disjoint (m_disjoint hR (by omega) (Nat.le_refl _) (Nat.le_refl _)) hR.1 rfl (by omega) (Nat.le_of_ble_eq_true rfl) (by omega) (by omega) (cp_e ox_disjoint (all1 (fun p pe pR pF => ?_))) (cp_n ox_disjoint (fun p v pe pR pF => ?_))
  · refine swx_catchW (E := "java/lang/IndexOutOfBoundsException") (pre := []) (suf := []) (x := (0, 11, 14, 19)) (k0 := 4) (lv' := [(0, _), (1, _), (2, _), (3, _)]) rfl (pas0) (by decide +kernel) (by decide +kernel) w_395 v_325 dL_disjoint_14 (by decide +kernel) rfl ?_
    refine sw_iconst (pc' := 17) (v := 1) rfl dL_disjoint_16 (by decide +kernel) ?_
    refine sw_ret (v := some _) ⟨dL_disjoint_17, _, rfl, rfl⟩ ?_
    exact lp_x pe tc_1 pR pF hO hn (Nat.le_refl _)
  refine sw_i2l (pc' := 8) rfl dL_disjoint_7 ?_
  refine sw_putN (ci := 5) (k := 0) (pc' := 11) rfl dL_disjoint_8 (by decide +kernel) (by decide +kernel) v_347 rfl ((pF 158 (by omega) (by omega)).trans hO) (by show 100 ≤ _; omega) (Nat.le_of_ble_eq_true rfl) rfl rfl ?_
  refine sw_nm (fun g1 eg1 => ?_)
  have zg1 := (congrFun eg1 158).trans (up_s (h := p) (i := 158))
  refine sw_goto (tgt := 18) dL_disjoint_11 (by decide +kernel) ?_
  refine sw_iconst (pc' := 19) (v := 0) rfl dL_disjoint_18 (by decide +kernel) ?_
  refine sw_ret (v := some _) ⟨dL_disjoint_19, _, rfl, rfl⟩ ?_
  exact lp_v pe pR pF zg1 rfl (fun i h1 => (congrFun eg1 i).trans ((up_n h1).trans (rfl)))
theorem ox_end {σ : CS} {a y : Int32} : OX [sI] (opEnd σ a y) := by
  unfold opEnd
  repeat' first
    | with_reducible exact ox_i
    | with_reducible exact ox_I mm_I_I
    | with_reducible refine ox_Sh mm_I_I (fun _ => ?_)
    | with_reducible refine ox_Wk mm_I_I (fun _ => ?_)
    | with_reducible refine ox_Rw mm_I_I (fun _ => ?_)
    | with_reducible refine ox_Li mm_I_I (fun _ => ?_)
    | with_reducible refine ox_if ?_ ?_
    | exact ox_i
    | exact ox_I mm_I_I
    | refine ox_Sh mm_I_I (fun _ => ?_)
    | refine ox_Wk mm_I_I (fun _ => ?_)
    | refine ox_Rw mm_I_I (fun _ => ?_)
    | refine ox_Li mm_I_I (fun _ => ?_)
    | refine ox_if ?_ ?_
    | split
theorem L_end {h : AH} {d bc bs n N : Nat} {σ : CS} {a y : Int32} {w : Int64} {s : Value} (hR : RC h σ) (hT : TXT h) (hV : IV σ N) (hN : N < 2 ^ 31) (hO : h 158 = .inr (5, [.long w, s])) (hn : 159 ≤ n) (hd : 12 ≤ d) (h1 : 60 ≤ bc) (h2 : 400 ≤ bs) : SM SR0 ML_end d bc bs [.ref 100, .int a, .int y, .ref 158] h n (LPo h n (tc sI sI) (opEnd σ a y)) := by
  refine sm_ofH pn_OverwalksLaw (by decide +kernel) (Nat.le_of_ble_eq_true rfl) ?_
  refine sw_aload_n (pc' := 1) rfl dL_end_0 rfl ?_
  refine sw_aload_n (pc' := 2) rfl dL_end_1 rfl ?_
  refine sw_iload_n (pc' := 3) rfl dL_end_2 rfl ?_
  refine sw_iload_n (pc' := 4) rfl dL_end_3 rfl ?_
  refine sw_V (M' := MX3_end) (d' := d - 1) (bc' := 20) (bs' := 200) (ci := 4) (as := [_, _]) dL_end_4 w_1063 ok_X3_end (m_end hR (by omega) (Nat.le_refl _) (Nat.le_refl _)) hR.1 rfl (by omega) (Nat.le_of_ble_eq_true rfl) (by omega) (by omega) (cp_e ox_end (all1 (fun p pe pR pF => ?_))) (cp_n ox_end (fun p v pe pR pF => ?_))
  · refine swx_catchW (E := "java/lang/IndexOutOfBoundsException") (pre := []) (suf := []) (x := (0, 11, 14, 19)) (k0 := 4) (lv' := [(0, _), (1, _), (2, _), (3, _)]) rfl (pas0) (by decide +kernel) (by decide +kernel) w_395 v_325 dL_end_14 (by decide +kernel) rfl ?_
    refine sw_iconst (pc' := 17) (v := 1) rfl dL_end_16 (by decide +kernel) ?_
    refine sw_ret (v := some _) ⟨dL_end_17, _, rfl, rfl⟩ ?_
    exact lp_x pe tc_1 pR pF hO hn (Nat.le_refl _)
  refine sw_i2l (pc' := 8) rfl dL_end_7 ?_
  refine sw_putN (ci := 5) (k := 0) (pc' := 11) rfl dL_end_8 (by decide +kernel) (by decide +kernel) v_347 rfl ((pF 158 (by omega) (by omega)).trans hO) (by show 100 ≤ _; omega) (Nat.le_of_ble_eq_true rfl) rfl rfl ?_
  refine sw_nm (fun g1 eg1 => ?_)
  have zg1 := (congrFun eg1 158).trans (up_s (h := p) (i := 158))
  refine sw_goto (tgt := 18) dL_end_11 (by decide +kernel) ?_
  refine sw_iconst (pc' := 19) (v := 0) rfl dL_end_18 (by decide +kernel) ?_
  refine sw_ret (v := some _) ⟨dL_end_19, _, rfl, rfl⟩ ?_
  exact lp_v pe pR pF zg1 rfl (fun i h1 => (congrFun eg1 i).trans ((up_n h1).trans (rfl)))
theorem ox_code {σ : CS} {a : Int32} : OX [sI] (opCode σ a) := by
  unfold opCode
  repeat' first
    | with_reducible exact ox_i
    | with_reducible exact ox_I mm_I_I
    | with_reducible refine ox_Sh mm_I_I (fun _ => ?_)
    | with_reducible refine ox_Wk mm_I_I (fun _ => ?_)
    | with_reducible refine ox_Rw mm_I_I (fun _ => ?_)
    | with_reducible refine ox_Li mm_I_I (fun _ => ?_)
    | with_reducible refine ox_if ?_ ?_
    | exact ox_i
    | exact ox_I mm_I_I
    | refine ox_Sh mm_I_I (fun _ => ?_)
    | refine ox_Wk mm_I_I (fun _ => ?_)
    | refine ox_Rw mm_I_I (fun _ => ?_)
    | refine ox_Li mm_I_I (fun _ => ?_)
    | refine ox_if ?_ ?_
    | split
theorem L_code {h : AH} {d bc bs n N : Nat} {σ : CS} {a : Int32} {w : Int64} {s : Value} (hR : RC h σ) (hT : TXT h) (hV : IV σ N) (hN : N < 2 ^ 31) (hO : h 158 = .inr (5, [.long w, s])) (hn : 159 ≤ n) (hd : 12 ≤ d) (h1 : 60 ≤ bc) (h2 : 400 ≤ bs) : SM SR0 ML_code d bc bs [.ref 100, .int a, .ref 158] h n (LPo h n (tc sI sI) (opCode σ a)) := by
  refine sm_ofH pn_OverwalksLaw (by decide +kernel) (Nat.le_of_ble_eq_true rfl) ?_
  refine sw_aload_n (pc' := 1) rfl dL_code_0 rfl ?_
  refine sw_aload_n (pc' := 2) rfl dL_code_1 rfl ?_
  refine sw_iload_n (pc' := 3) rfl dL_code_2 rfl ?_
  refine sw_V (M' := MX3_code) (d' := d - 1) (bc' := 20) (bs' := 200) (ci := 4) (as := [_]) dL_code_3 w_1072 ok_X3_code (m_code hR (by omega) (Nat.le_refl _) (Nat.le_refl _)) hR.1 rfl (by omega) (Nat.le_of_ble_eq_true rfl) (by omega) (by omega) (cp_e ox_code (all1 (fun p pe pR pF => ?_))) (cp_n ox_code (fun p v pe pR pF => ?_))
  · refine swx_catch (E := "java/lang/IndexOutOfBoundsException") (pre := []) (suf := []) (x := (0, 10, 13, 19)) (k0 := 3) (lv' := [(0, _), (1, _), (2, _)]) rfl (pas0) (by decide +kernel) (by decide +kernel) w_395 v_325 dL_code_13 (by decide +kernel) rfl ?_
    refine sw_iconst (pc' := 15) (v := 1) rfl dL_code_14 (by decide +kernel) ?_
    refine sw_ret (v := some _) ⟨dL_code_15, _, rfl, rfl⟩ ?_
    exact lp_x pe tc_1 pR pF hO hn (Nat.le_refl _)
  refine sw_i2l (pc' := 7) rfl dL_code_6 ?_
  refine sw_putN (ci := 5) (k := 0) (pc' := 10) rfl dL_code_7 (by decide +kernel) (by decide +kernel) v_347 rfl ((pF 158 (by omega) (by omega)).trans hO) (by show 100 ≤ _; omega) (Nat.le_of_ble_eq_true rfl) rfl rfl ?_
  refine sw_nm (fun g1 eg1 => ?_)
  have zg1 := (congrFun eg1 158).trans (up_s (h := p) (i := 158))
  refine sw_goto (tgt := 16) dL_code_10 (by decide +kernel) ?_
  refine sw_iconst (pc' := 17) (v := 0) rfl dL_code_16 (by decide +kernel) ?_
  refine sw_ret (v := some _) ⟨dL_code_17, _, rfl, rfl⟩ ?_
  exact lp_v pe pR pF zg1 rfl (fun i h1 => (congrFun eg1 i).trans ((up_n h1).trans (rfl)))
theorem ox_areAlike {σ : CS} {a x : Int32} : OX [sI] (opAreAlike σ a x) := by
  unfold opAreAlike
  repeat' first
    | with_reducible exact ox_i
    | with_reducible exact ox_I mm_I_I
    | with_reducible refine ox_Sh mm_I_I (fun _ => ?_)
    | with_reducible refine ox_Wk mm_I_I (fun _ => ?_)
    | with_reducible refine ox_Rw mm_I_I (fun _ => ?_)
    | with_reducible refine ox_Li mm_I_I (fun _ => ?_)
    | with_reducible refine ox_if ?_ ?_
    | exact ox_i
    | exact ox_I mm_I_I
    | refine ox_Sh mm_I_I (fun _ => ?_)
    | refine ox_Wk mm_I_I (fun _ => ?_)
    | refine ox_Rw mm_I_I (fun _ => ?_)
    | refine ox_Li mm_I_I (fun _ => ?_)
    | refine ox_if ?_ ?_
    | split
theorem bo_areAlike {σ : CS} {a x : Int32} {v : Int32} (e : (opAreAlike σ a x).1 = rI v) : v = 0 ∨ v = 1 := by
  unfold opAreAlike onSh at e
  split at e
  · cases e
  · dsimp only at e
    split at e
    · cases e
    · cases e
      cases hsB (σ.1 a.toNatClampNeg) (σ.1 x.toNatClampNeg) (σ.2.1 a.toNatClampNeg) (σ.2.1 x.toNatClampNeg)
      · exact Or.inl rfl
      · exact Or.inr rfl
theorem L_areAlike {h : AH} {d bc bs n N : Nat} {σ : CS} {a x : Int32} {w : Int64} {s : Value} (hR : RC h σ) (hT : TXT h) (hV : IV σ N) (hN : N < 2 ^ 31) (hO : h 158 = .inr (5, [.long w, s])) (hn : 159 ≤ n) (hd : 12 ≤ d) (h1 : 60 ≤ bc) (h2 : 400 ≤ bs) : SM SR0 ML_areAlike d bc bs [.ref 100, .int a, .int x, .ref 158] h n (LPo h n (tc sI sI) (opAreAlike σ a x)) := by
  refine sm_ofH pn_OverwalksLaw (by decide +kernel) (Nat.le_of_ble_eq_true rfl) ?_
  refine sw_aload_n (pc' := 1) rfl dL_areAlike_0 rfl ?_
  refine sw_aload_n (pc' := 2) rfl dL_areAlike_1 rfl ?_
  refine sw_iload_n (pc' := 3) rfl dL_areAlike_2 rfl ?_
  refine sw_iload_n (pc' := 4) rfl dL_areAlike_3 rfl ?_
  refine sw_V (M' := MX3_areAlike) (d' := d - 1) (bc' := 20) (bs' := 200) (ci := 4) (as := [_, _]) dL_areAlike_4 w_1079 ok_X3_areAlike (m_areAlike hR (by omega) (Nat.le_refl _) (Nat.le_refl _)) hR.1 rfl (by omega) (Nat.le_of_ble_eq_true rfl) (by omega) (by omega) (cp_e ox_areAlike (all1 (fun p pe pR pF => ?_))) (cp_n ox_areAlike (fun p v pe pR pF => ?_))
  · refine swx_catchW (E := "java/lang/IndexOutOfBoundsException") (pre := []) (suf := []) (x := (0, 18, 21, 19)) (k0 := 4) (lv' := [(0, _), (1, _), (2, _), (3, _)]) rfl (pas0) (by decide +kernel) (by decide +kernel) w_395 v_325 dL_areAlike_21 (by decide +kernel) rfl ?_
    refine sw_iconst (pc' := 24) (v := 1) rfl dL_areAlike_23 (by decide +kernel) ?_
    refine sw_ret (v := some _) ⟨dL_areAlike_24, _, rfl, rfl⟩ ?_
    exact lp_x pe tc_1 pR pF hO hn (Nat.le_refl _)
  refine sw_if_eq (pc' := 10) (tgt := 14) rfl dL_areAlike_7 (by decide +kernel) (fun c7 => ?_) (fun c7 => ?_)
  · refine sw_lconst (pc' := 15) (v := 0) rfl dL_areAlike_14 (by decide +kernel) ?_
    refine sw_putN (ci := 5) (k := 0) (pc' := 18) rfl dL_areAlike_15 (by decide +kernel) (by decide +kernel) v_347 rfl ((pF 158 (by omega) (by omega)).trans hO) (by show 100 ≤ _; omega) (Nat.le_of_ble_eq_true rfl) rfl rfl ?_
    refine sw_nm (fun g1 eg1 => ?_)
    have zg1 := (congrFun eg1 158).trans (up_s (h := p) (i := 158))
    refine sw_goto (tgt := 25) dL_areAlike_18 (by decide +kernel) ?_
    refine sw_iconst (pc' := 26) (v := 0) rfl dL_areAlike_25 (by decide +kernel) ?_
    refine sw_ret (v := some _) ⟨dL_areAlike_26, _, rfl, rfl⟩ ?_
    exact lp_v pe pR pF zg1 (by rw [c7]; rfl) (fun i h1 => (congrFun eg1 i).trans ((up_n h1).trans (rfl)))
  · refine sw_lconst (pc' := 11) (v := 1) rfl dL_areAlike_10 (by decide +kernel) ?_
    refine sw_goto (tgt := 15) dL_areAlike_11 (by decide +kernel) ?_
    refine sw_putN (ci := 5) (k := 0) (pc' := 18) rfl dL_areAlike_15 (by decide +kernel) (by decide +kernel) v_347 rfl ((pF 158 (by omega) (by omega)).trans hO) (by show 100 ≤ _; omega) (Nat.le_of_ble_eq_true rfl) rfl rfl ?_
    refine sw_nm (fun g2 eg2 => ?_)
    have zg2 := (congrFun eg2 158).trans (up_s (h := p) (i := 158))
    refine sw_goto (tgt := 25) dL_areAlike_18 (by decide +kernel) ?_
    refine sw_iconst (pc' := 26) (v := 0) rfl dL_areAlike_25 (by decide +kernel) ?_
    refine sw_ret (v := some _) ⟨dL_areAlike_26, _, rfl, rfl⟩ ?_
    exact lp_v pe pR pF zg2 ((bo_areAlike pe).elim (fun e => absurd e c7) (fun e => by rw [e]; rfl)) (fun i h1 => (congrFun eg2 i).trans ((up_n h1).trans (rfl)))
theorem ox_first {σ : CS} {a y : Int32} : OX [sI] (opFirst σ a y) := by
  unfold opFirst
  repeat' first
    | with_reducible exact ox_i
    | with_reducible exact ox_I mm_I_I
    | with_reducible refine ox_Sh mm_I_I (fun _ => ?_)
    | with_reducible refine ox_Wk mm_I_I (fun _ => ?_)
    | with_reducible refine ox_Rw mm_I_I (fun _ => ?_)
    | with_reducible refine ox_Li mm_I_I (fun _ => ?_)
    | with_reducible refine ox_if ?_ ?_
    | exact ox_i
    | exact ox_I mm_I_I
    | refine ox_Sh mm_I_I (fun _ => ?_)
    | refine ox_Wk mm_I_I (fun _ => ?_)
    | refine ox_Rw mm_I_I (fun _ => ?_)
    | refine ox_Li mm_I_I (fun _ => ?_)
    | refine ox_if ?_ ?_
    | split
theorem L_first {h : AH} {d bc bs n N : Nat} {σ : CS} {a y : Int32} {w : Int64} {s : Value} (hR : RC h σ) (hT : TXT h) (hV : IV σ N) (hN : N < 2 ^ 31) (hO : h 158 = .inr (5, [.long w, s])) (hn : 159 ≤ n) (hd : 12 ≤ d) (h1 : 60 ≤ bc) (h2 : 400 ≤ bs) : SM SR0 ML_first d bc bs [.ref 100, .int a, .int y, .ref 158] h n (LPo h n (tc sI sI) (opFirst σ a y)) := by
  refine sm_ofH pn_OverwalksLaw (by decide +kernel) (Nat.le_of_ble_eq_true rfl) ?_
  refine sw_aload_n (pc' := 1) rfl dL_first_0 rfl ?_
  refine sw_aload_n (pc' := 2) rfl dL_first_1 rfl ?_
  refine sw_iload_n (pc' := 3) rfl dL_first_2 rfl ?_
  refine sw_iload_n (pc' := 4) rfl dL_first_3 rfl ?_
  refine sw_V (M' := MX3_first) (d' := d - 1) (bc' := 20) (bs' := 200) (ci := 4) (as := [_, _]) dL_first_4 w_1086 ok_X3_first (m_first hR (by omega) (Nat.le_refl _) (Nat.le_refl _)) hR.1 rfl (by omega) (Nat.le_of_ble_eq_true rfl) (by omega) (by omega) (cp_e ox_first (all1 (fun p pe pR pF => ?_))) (cp_n ox_first (fun p v pe pR pF => ?_))
  · refine swx_catchW (E := "java/lang/IndexOutOfBoundsException") (pre := []) (suf := []) (x := (0, 11, 14, 19)) (k0 := 4) (lv' := [(0, _), (1, _), (2, _), (3, _)]) rfl (pas0) (by decide +kernel) (by decide +kernel) w_395 v_325 dL_first_14 (by decide +kernel) rfl ?_
    refine sw_iconst (pc' := 17) (v := 1) rfl dL_first_16 (by decide +kernel) ?_
    refine sw_ret (v := some _) ⟨dL_first_17, _, rfl, rfl⟩ ?_
    exact lp_x pe tc_1 pR pF hO hn (Nat.le_refl _)
  refine sw_i2l (pc' := 8) rfl dL_first_7 ?_
  refine sw_putN (ci := 5) (k := 0) (pc' := 11) rfl dL_first_8 (by decide +kernel) (by decide +kernel) v_347 rfl ((pF 158 (by omega) (by omega)).trans hO) (by show 100 ≤ _; omega) (Nat.le_of_ble_eq_true rfl) rfl rfl ?_
  refine sw_nm (fun g1 eg1 => ?_)
  have zg1 := (congrFun eg1 158).trans (up_s (h := p) (i := 158))
  refine sw_goto (tgt := 18) dL_first_11 (by decide +kernel) ?_
  refine sw_iconst (pc' := 19) (v := 0) rfl dL_first_18 (by decide +kernel) ?_
  refine sw_ret (v := some _) ⟨dL_first_19, _, rfl, rfl⟩ ?_
  exact lp_v pe pR pF zg1 rfl (fun i h1 => (congrFun eg1 i).trans ((up_n h1).trans (rfl)))
theorem mm_A_A : sA ∈ [sA] := .head _
theorem ox_valueOf {σ : CS} {x : Int32} : OX [sA] (opValueOf σ x) := by
  unfold opValueOf
  repeat' first
    | with_reducible exact ox_i
    | with_reducible exact ox_A mm_A_A
    | with_reducible refine ox_if ?_ ?_
    | exact ox_i
    | exact ox_A mm_A_A
    | refine ox_if ?_ ?_
    | split
theorem L_valueOf {h : AH} {d bc bs n N : Nat} {σ : CS} {x : Int32} {w : Int64} {s : Value} (hR : RC h σ) (hT : TXT h) (hV : IV σ N) (hN : N < 2 ^ 31) (hO : h 158 = .inr (5, [.long w, s])) (hn : 159 ≤ n) (hd : 12 ≤ d) (h1 : 60 ≤ bc) (h2 : 400 ≤ bs) : SM SR0 ML_valueOf d bc bs [.ref 100, .int x, .ref 158] h n (LPo h n (tc sA sA) (opValueOf σ x)) := by
  refine sm_ofH pn_OverwalksLaw (by decide +kernel) (Nat.le_of_ble_eq_true rfl) ?_
  refine sw_aload_n (pc' := 1) rfl dL_valueOf_0 rfl ?_
  refine sw_aload_n (pc' := 2) rfl dL_valueOf_1 rfl ?_
  refine sw_iload_n (pc' := 3) rfl dL_valueOf_2 rfl ?_
  refine sw_V (M' := MX3_valueOf) (d' := d - 1) (bc' := 20) (bs' := 200) (ci := 4) (as := [_]) dL_valueOf_3 w_1093 ok_X3_valueOf (m_valueOf hR (by omega) (Nat.le_refl _) (Nat.le_refl _)) hR.1 rfl (by omega) (Nat.le_of_ble_eq_true rfl) (by omega) (by omega) (cp_e ox_valueOf (all1 (fun p pe pR pF => ?_))) (cp_n ox_valueOf (fun p v pe pR pF => ?_))
  · refine swx_catch (E := "java/lang/IllegalArgumentException") (pre := []) (suf := []) (x := (0, 10, 13, 21)) (k0 := 3) (lv' := [(0, _), (1, _), (2, _)]) rfl (pas0) (by decide +kernel) (by decide +kernel) w_396 v_249 dL_valueOf_13 (by decide +kernel) rfl ?_
    refine sw_iconst (pc' := 15) (v := 1) rfl dL_valueOf_14 (by decide +kernel) ?_
    refine sw_ret (v := some _) ⟨dL_valueOf_15, _, rfl, rfl⟩ ?_
    exact lp_x pe tc_1 pR pF hO hn (Nat.le_refl _)
  refine sw_i2l (pc' := 7) rfl dL_valueOf_6 ?_
  refine sw_putN (ci := 5) (k := 0) (pc' := 10) rfl dL_valueOf_7 (by decide +kernel) (by decide +kernel) v_347 rfl ((pF 158 (by omega) (by omega)).trans hO) (by show 100 ≤ _; omega) (Nat.le_of_ble_eq_true rfl) rfl rfl ?_
  refine sw_nm (fun g1 eg1 => ?_)
  have zg1 := (congrFun eg1 158).trans (up_s (h := p) (i := 158))
  refine sw_goto (tgt := 16) dL_valueOf_10 (by decide +kernel) ?_
  refine sw_iconst (pc' := 17) (v := 0) rfl dL_valueOf_16 (by decide +kernel) ?_
  refine sw_ret (v := some _) ⟨dL_valueOf_17, _, rfl, rfl⟩ ?_
  exact lp_v pe pR pF zg1 rfl (fun i h1 => (congrFun eg1 i).trans ((up_n h1).trans (rfl)))
theorem ox_ofWalk {σ : CS} {a x : Int32} : OX [sI, sA] (opOfWalk σ a x) := by
  unfold opOfWalk
  repeat' first
    | with_reducible exact ox_i
    | with_reducible exact ox_I mm_IA_I
    | with_reducible exact ox_A mm_IA_A
    | with_reducible refine ox_Sh mm_IA_I (fun _ => ?_)
    | with_reducible refine ox_Wk mm_IA_I (fun _ => ?_)
    | with_reducible refine ox_Rw mm_IA_I (fun _ => ?_)
    | with_reducible refine ox_Li mm_IA_I (fun _ => ?_)
    | with_reducible refine ox_if ?_ ?_
    | exact ox_i
    | exact ox_I mm_IA_I
    | exact ox_A mm_IA_A
    | refine ox_Sh mm_IA_I (fun _ => ?_)
    | refine ox_Wk mm_IA_I (fun _ => ?_)
    | refine ox_Rw mm_IA_I (fun _ => ?_)
    | refine ox_Li mm_IA_I (fun _ => ?_)
    | refine ox_if ?_ ?_
    | split
theorem L_ofWalk {h : AH} {d bc bs n N : Nat} {σ : CS} {a x : Int32} {w : Int64} {s : Value} (hR : RC h σ) (hT : TXT h) (hV : IV σ N) (hN : N < 2 ^ 31) (hO : h 158 = .inr (5, [.long w, s])) (hn : 159 ≤ n) (hd : 12 ≤ d) (h1 : 60 ≤ bc) (h2 : 400 ≤ bs) : SM SR0 ML_ofWalk d bc bs [.ref 100, .int a, .int x, .ref 158] h n (LPo h n (tc sI sA) (opOfWalk σ a x)) := by
  refine sm_ofH pn_OverwalksLaw (by decide +kernel) (Nat.le_of_ble_eq_true rfl) ?_
  refine sw_aload_n (pc' := 1) rfl dL_ofWalk_0 rfl ?_
  refine sw_aload_n (pc' := 2) rfl dL_ofWalk_1 rfl ?_
  refine sw_iload_n (pc' := 3) rfl dL_ofWalk_2 rfl ?_
  refine sw_iload_n (pc' := 4) rfl dL_ofWalk_3 rfl ?_
  refine sw_V (M' := MX3_ofWalk) (d' := d - 1) (bc' := 20) (bs' := 200) (ci := 4) (as := [_, _]) dL_ofWalk_4 w_1100 ok_X3_ofWalk (m_ofWalk hR (by omega) (Nat.le_refl _) (Nat.le_refl _)) hR.1 rfl (by omega) (Nat.le_of_ble_eq_true rfl) (by omega) (by omega) (cp_e ox_ofWalk (all2 (fun p pe pR pF => ?_) (fun p pe pR pF => ?_))) (cp_n ox_ofWalk (fun p v pe pR pF => ?_))
  · refine swx_catchW (E := "java/lang/IndexOutOfBoundsException") (pre := []) (suf := [(0, 11, 18, 21)]) (x := (0, 11, 14, 19)) (k0 := 4) (lv' := [(0, _), (1, _), (2, _), (3, _)]) rfl (pas0) (by decide +kernel) (by decide +kernel) w_395 v_325 dL_ofWalk_14 (by decide +kernel) rfl ?_
    refine sw_iconst (pc' := 17) (v := 1) rfl dL_ofWalk_16 (by decide +kernel) ?_
    refine sw_ret (v := some _) ⟨dL_ofWalk_17, _, rfl, rfl⟩ ?_
    exact lp_x pe tc_1 pR pF hO hn (Nat.le_refl _)
  · refine swx_catchW (E := "java/lang/IllegalArgumentException") (pre := [(0, 11, 14, 19)]) (suf := []) (x := (0, 11, 18, 21)) (k0 := 4) (lv' := [(0, _), (1, _), (2, _), (3, _)]) rfl (pas1 ⟨by decide +kernel, _, w_395, .tail _ (.tail _ (.head _))⟩) (by decide +kernel) (by decide +kernel) w_396 v_249 dL_ofWalk_18 (by decide +kernel) rfl ?_
    refine sw_iconst (pc' := 21) (v := 2) rfl dL_ofWalk_20 (by decide +kernel) ?_
    refine sw_ret (v := some _) ⟨dL_ofWalk_21, _, rfl, rfl⟩ ?_
    exact lp_x pe (tc_2 sAI) pR pF hO hn (Nat.le_refl _)
  refine sw_i2l (pc' := 8) rfl dL_ofWalk_7 ?_
  refine sw_putN (ci := 5) (k := 0) (pc' := 11) rfl dL_ofWalk_8 (by decide +kernel) (by decide +kernel) v_347 rfl ((pF 158 (by omega) (by omega)).trans hO) (by show 100 ≤ _; omega) (Nat.le_of_ble_eq_true rfl) rfl rfl ?_
  refine sw_nm (fun g1 eg1 => ?_)
  have zg1 := (congrFun eg1 158).trans (up_s (h := p) (i := 158))
  refine sw_goto (tgt := 22) dL_ofWalk_11 (by decide +kernel) ?_
  refine sw_iconst (pc' := 23) (v := 0) rfl dL_ofWalk_22 (by decide +kernel) ?_
  refine sw_ret (v := some _) ⟨dL_ofWalk_23, _, rfl, rfl⟩ ?_
  exact lp_v pe pR pF zg1 rfl (fun i h1 => (congrFun eg1 i).trans ((up_n h1).trans (rfl)))
theorem ox_house {σ : CS} {x : Int32} : OX [sA] (opHouse σ x) := by
  unfold opHouse
  repeat' first
    | with_reducible exact ox_i
    | with_reducible exact ox_A mm_A_A
    | with_reducible refine ox_if ?_ ?_
    | exact ox_i
    | exact ox_A mm_A_A
    | refine ox_if ?_ ?_
    | split
theorem L_house {h : AH} {d bc bs n N : Nat} {σ : CS} {x : Int32} {w : Int64} {s : Value} (hR : RC h σ) (hT : TXT h) (hV : IV σ N) (hN : N < 2 ^ 31) (hO : h 158 = .inr (5, [.long w, s])) (hn : 159 ≤ n) (hd : 12 ≤ d) (h1 : 60 ≤ bc) (h2 : 400 ≤ bs) : SM SR0 ML_house d bc bs [.ref 100, .int x, .ref 158] h n (LPo h n (tc sA sA) (opHouse σ x)) := by
  refine sm_ofH pn_OverwalksLaw (by decide +kernel) (Nat.le_of_ble_eq_true rfl) ?_
  refine sw_aload_n (pc' := 1) rfl dL_house_0 rfl ?_
  refine sw_aload_n (pc' := 2) rfl dL_house_1 rfl ?_
  refine sw_iload_n (pc' := 3) rfl dL_house_2 rfl ?_
  refine sw_V (M' := MX3_house) (d' := d - 1) (bc' := 20) (bs' := 200) (ci := 4) (as := [_]) dL_house_3 w_1104 ok_X3_house (m_house hR (by omega) (Nat.le_refl _) (Nat.le_refl _)) hR.1 rfl (by omega) (Nat.le_of_ble_eq_true rfl) (by omega) (by omega) (cp_e ox_house (all1 (fun p pe pR pF => ?_))) (cp_n ox_house (fun p v pe pR pF => ?_))
  · refine swx_catch (E := "java/lang/IllegalArgumentException") (pre := []) (suf := []) (x := (0, 10, 13, 21)) (k0 := 3) (lv' := [(0, _), (1, _), (2, _)]) rfl (pas0) (by decide +kernel) (by decide +kernel) w_396 v_249 dL_house_13 (by decide +kernel) rfl ?_
    refine sw_iconst (pc' := 15) (v := 1) rfl dL_house_14 (by decide +kernel) ?_
    refine sw_ret (v := some _) ⟨dL_house_15, _, rfl, rfl⟩ ?_
    exact lp_x pe tc_1 pR pF hO hn (Nat.le_refl _)
  refine sw_i2l (pc' := 7) rfl dL_house_6 ?_
  refine sw_putN (ci := 5) (k := 0) (pc' := 10) rfl dL_house_7 (by decide +kernel) (by decide +kernel) v_347 rfl ((pF 158 (by omega) (by omega)).trans hO) (by show 100 ≤ _; omega) (Nat.le_of_ble_eq_true rfl) rfl rfl ?_
  refine sw_nm (fun g1 eg1 => ?_)
  have zg1 := (congrFun eg1 158).trans (up_s (h := p) (i := 158))
  refine sw_goto (tgt := 16) dL_house_10 (by decide +kernel) ?_
  refine sw_iconst (pc' := 17) (v := 0) rfl dL_house_16 (by decide +kernel) ?_
  refine sw_ret (v := some _) ⟨dL_house_17, _, rfl, rfl⟩ ?_
  exact lp_v pe pR pF zg1 rfl (fun i h1 => (congrFun eg1 i).trans ((up_n h1).trans (rfl)))
end
