/-! the constructors -/
theorem wsH_app {G : GD} {ad ad' : Nat → Nat} {h h' : AH} {n k : Nat} (h0 : nC ≤ n) (hcl : ∀ i, nC ≤ i → i < n → clE n (h i)) (e1 : ∀ i, i < n → ad' i = ad i) (e2 : ∀ i, i < n → h' i = h i) : wsH G ad' h' (n + k) = wsH G ad h n ++ (List.range k).map (fun j => (ad' (n + j), emE G.2.1 ad' (h' (n + j)))) := by
  unfold wsH
  rw [show n + k - nC = (n - nC) + k by omega, List.range_add, List.map_append, List.map_map]
  congr 1
  · apply List.map_congr_left
    intro j hj
    have := List.mem_range.mp hj
    rw [e1 _ (by omega), e2 _ (by omega), emE_eq (hcl _ (by omega) (by omega)) e1]
  · apply List.map_congr_left
    intro j _
    show (ad' (nC + (n - nC + j)), emE G.2.1 ad' (h' (nC + (n - nC + j)))) = _
    rw [show nC + (n - nC + j) = n + j by omega]
theorem Ext.up {ad0 ad ad' : Nat → Nat} {n0 n n' : Nat} (h : Ext ad0 ad n0 n) (hn : n ≤ n') (e : ∀ i, i < n → ad' i = ad i) : Ext ad0 ad' n0 n' := h.tr ⟨hn, e⟩
theorem LM.up {ad ad' : Nat → Nat} {nL n n' : Nat} {lv : List (Nat × Value)} {st : List Value} {ls : Array Slot} (hl : LM ad nL n lv st ls) (hn : n ≤ n') (e : ∀ i, i < n → ad' i = ad i) : LM ad' nL n' lv st ls := by
  refine ⟨?_, fun z hz => clV_mono (hl.2.1 z hz) hn, fun z hz => clV_mono (hl.2.2 z hz) hn⟩
  have e1 : lv.map (fun z => (z.1, em ad' z.2)) = lv.map (fun z => (z.1, em ad z.2)) := List.map_congr_left (fun z hz => by rw [em_eq (hl.2.1 z hz) e])
  rw [e1]
  exact hl.1
section
variable {SR : SRT} {M : MI} {d bc bs pc pc' n : Nat} {lv : List (Nat × Value)} {st : List Value} {h : AH} {Post : ARes → AH → Nat → Prop}
/-- rows of ints -/
theorem sw_mna {idx N' K' : Nat} {x y : Int32} (hp : pc + 4 = pc') (hdg : decode M.2.1 pc = .ok (.multianewarray idx 2, 4)) (hw1 : Cond.classLink M.1.cls idx "[[I" ∈ GT) (hw2 : Cond.arrayClass .int ∈ GT) (ex : x = nI N') (ey : y = nI K') (hN : N' ≤ 1000) (hK : K' ≤ 1000) (h1 : 1 + N' ≤ bc) (h2 : N' + N' * K' ≤ bs)
    (kk : ∀ h' : AH, h' n = .inl (5, N', .inr (.inr (.inr (.inr (fun i => if i < N' then some (n + 1 + i) else none))))) → (∀ i, i < N' → h' (n + 1 + i) = .inl (0, K', .inl (fun _ => 0))) → (∀ i, i < n → h' i = h i) → SW SR M d (bc - (1 + N')) (bs - (N' + N' * K')) pc' lv (.ref n :: st) h' (n + 1 + N') Post) : SW SR M d bc bs pc lv (.int y :: .int x :: st) h n Post := by
  subst hp ex ey
  intro G p l e R s m args below meth c A ad0 n0 Q hc hr he H locs cells slots ls ad hm hl hx hbc hbs
  obtain ⟨hx1, hb1, hr1, hml1, hown1, hts1, hlk1, htb1, hlt1, hin1, hK1, hN1, hSR1, hAO1, hC1, hA1⟩ := id hc
  have hl8 : LM ad M.2.2.1 n lv st ls := hl.stk (cl1 (cl1 hl.2.2))
  have hnC := hm.lt
  refine va_mna (X := wsH G ad h n) (L := []) (f := fun _ => .inr (0, [])) (ty := .int) (cy := G.2.1 0) (z := (K', .inl (fun _ => 0))) (N' := N') (K' := K') hx1 hb1 hown1 (hts1 _ hw1) hAO1.2.2.1 (hts1 _ hw2) (hK1.2 0 _ (tysAt (by decide +kernel))).2 hK1 (by rw [show va_pl [] (fun _ => (Sum.inr (0, []) : va_E)) = [] from rfl, List.append_nil]; exact hm.1) (by rw [show va_pl [] (fun _ => (Sum.inr (0, []) : va_E)) = [] from rfl, List.append_nil]; exact hm.2.1) hm.2.2.1 hA1 (nI_pos (by omega)) (nI_pos (by omega)) (nI_clamp (by omega)) (nI_clamp (by omega)) (by omega) (by show K' * 4 ≤ _; omega) (by omega) rfl rfl (by omega) (by omega) (fun c => ?_) hdg (fun q r cA H1 hinj _ hK9 hP hD hS => ?_)
  · show ({ cls := c, slots := Array.replicate K' (.int 0), vm := .none } : Cell) = _
    rw [arrV_new]
    rfl
  · have ec : cA = G.2.1 5 := by
      have g1 := (hK9.2 6 (cA, .array .int) rfl).2
      have g2 := (hK1.2 5 _ (tysAt (by decide +kernel))).2
      exact Option.some.inj (g1.symm.trans g2)
    subst ec
    rw [List.nil_append] at hP hD
    have hrow : va_pl ((List.range N').map r) (vr_up (fun _ => (Sum.inr (0, []) : va_E)) ((List.range N').map r) (.inl (G.2.1 0, (K', .inl (fun _ => 0))))) = (List.range N').map (fun i => (r i, (Sum.inl (G.2.1 0, (K', .inl (fun _ => 0))) : va_E))) := by
      unfold va_pl
      rw [List.map_map]
      apply List.map_congr_left
      intro i hi
      show (r i, vr_up _ _ _ (r i)) = _
      rw [vr_up_in (List.mem_map.mpr ⟨i, hi, rfl⟩)]
    rw [hrow] at hP hD
    let ad' : Nat → Nat := fun i => if i < n then ad i else if i = n then q else r (i - (n + 1))
    let h' : AH := fun i => if i < n then h i else if i = n then .inl (5, N', .inr (.inr (.inr (.inr (fun i => if i < N' then some (n + 1 + i) else none))))) else .inl (0, K', .inl (fun _ => 0))
    have a1 : ∀ i, i < n → ad' i = ad i := fun i hi => if_pos hi
    have b1 : ∀ i, i < n → h' i = h i := fun i hi => if_pos hi
    have a2 : ad' n = q := (if_neg (Nat.lt_irrefl n)).trans (if_pos rfl)
    have b2 : h' n = .inl (5, N', .inr (.inr (.inr (.inr (fun i => if i < N' then some (n + 1 + i) else none))))) := (if_neg (Nat.lt_irrefl n)).trans (if_pos rfl)
    have a3 : ∀ i, ad' (n + 1 + i) = r i := fun i => (if_neg (by omega)).trans ((if_neg (by omega)).trans (by rw [show n + 1 + i - (n + 1) = i by omega]))
    have b3 : ∀ i, h' (n + 1 + i) = .inl (0, K', .inl (fun _ => 0)) := fun i => (if_neg (by omega)).trans (if_neg (by omega))
    have hcl9 : ∀ i, nC ≤ i → i < n + 1 + N' → clE (n + 1 + N') (h' i) := by
      intro i g1 g2
      rcases Nat.lt_trichotomy i n with g | g | g
      · rw [b1 i g]
        exact clE_mono (hm.2.2.2.2.1 i g1 g) (by omega)
      · rw [g, b2]
        intro j z hz
        have hz9 : (if j < N' then some (n + 1 + j) else none) = some z := hz
        by_cases e : j < N'
        · rw [if_pos e] at hz9
          cases hz9
          omega
        · rw [if_neg e] at hz9
          cases hz9
      · obtain ⟨j, rfl⟩ : ∃ j, i = n + 1 + j := ⟨i - (n + 1), by omega⟩
        rw [b3 j]
        trivial
    have hw9 : wsH G ad' h' (n + 1 + N') = (wsH G ad h n ++ [(q, (Sum.inl (G.2.1 5, N', .inr (.inr (.inr (.inr (fun i => if i < N' then some (r i) else none))))) : va_E))]) ++ (List.range N').map (fun i => (r i, (Sum.inl (G.2.1 0, (K', .inl (fun _ => 0))) : va_E))) := by
      rw [show n + 1 + N' = n + (1 + N') by omega, wsH_app hnC hm.2.2.2.2.1 a1 b1, List.append_assoc]
      congr 1
      rw [List.range_add, List.map_append, List.map_map]
      congr 1
      · show [(ad' (n + 0), emE G.2.1 ad' (h' (n + 0)))] = _
        rw [Nat.add_zero, a2, b2]
        show [(q, (Sum.inl (G.2.1 5, N', .inr (.inr (.inr (.inr (fun j => (if j < N' then some (n + 1 + j) else none).map ad'))))) : va_E))] = _
        have e9 : (fun j => (if j < N' then some (n + 1 + j) else none).map ad') = fun i => if i < N' then some (r i) else none := by
          funext j
          by_cases e : j < N'
          · rw [if_pos e, if_pos e]
            exact congrArg some (a3 j)
          · rw [if_neg e, if_neg e]
            rfl
        rw [e9]
      · apply List.map_congr_left
        intro i _
        show (ad' (n + (1 + i)), emE G.2.1 ad' (h' (n + (1 + i)))) = _
        rw [← Nat.add_assoc, a3, b3]
        rfl
    rw [← hw9] at hP hD
    have hm9 : HM G A s.heap h' (n + 1 + N') H1 locs ad' := ⟨hP, hD, hS, by omega, hcl9, fun i g => by rw [b1 i (by omega), a1 i (by omega)]; exact hm.2.2.2.2.2 i g⟩
    have k9 := kk h' b2 (fun i _ => b3 i) b1 G p l e R s m args below meth c A ad0 n0 Q hc hr he H1 locs (cells + 1 + N') (slots + N' + N' * K') ls ad' hm9 ((hl8.up (n' := n + 1 + N') (by omega) a1).stk (clc (hl8.up (n' := n + 1 + N') (by omega) a1).2.2 (fun i g => by cases g; exact (show n < n + 1 + N' from by omega)))) (hx.up (by omega) a1) (by omega) (by omega)
    rw [List.map_cons, show em ad' (.ref n) = .ref q from congrArg Value.ref a2, List.map_congr_left (fun v hv => em_eq (hl8.2.2 v hv) a1)] at k9
    exact k9
end
/-- as it begins -/
def s0 : CS := (fun _ _ => 0, fun _ => 0, fun _ => 0, fun _ => 0, fun _ => (false, 0, 0, 0, 0, 0, 0, false), 0, 0)
/-- i SHELVES are made -/
def C1 (h p : AH) (i : Nat) : Prop := p 100 = .inr (4, dfs 4) ∧ (∃ g, p 101 = .inl (3, 11, .inr (.inr (.inr (.inr g)))) ∧ ∀ k, k < i → g k = some (102 + 2 * k)) ∧ (∀ k, k < i → ShF p (102 + 2 * k) (kdO k) (fun _ => 0) 0 0 0) ∧ ∀ j, j < 100 → p j = h j
theorem C1.next {h p p2 p3 : AH} {i b : Nat} {g : Nat → Option Nat} (hC : C1 h p i) (hi : i < 11) (hb : b = 102 + 2 * i) (hS : ShF p2 b (kdO i) (fun _ => 0) 0 0 0) (hF : ∀ j, j ≠ b → j ≠ b + 1 → p2 j = p j) (hg : p2 101 = .inl (3, 11, .inr (.inr (.inr (.inr g))))) (h3 : p3 = up p2 101 (.inl (3, 11, .inr (.inr (.inr (.inr (up g i (some b)))))))) : C1 h p3 (i + 1) := by
  subst hb h3
  obtain ⟨h1, ⟨g', h2, h2'⟩, h3, h4⟩ := hC
  have eg : g' = g := by
    rw [hF 101 (by omega) (by omega), h2] at hg
    cases hg
    rfl
  subst eg
  refine ⟨(up_n (by decide +kernel)).trans ((hF 100 (by omega) (by omega)).trans h1), ⟨_, up_s, fun k hk => ?_⟩, fun k hk => ?_, fun j hj => (up_n (by omega)).trans ((hF j (by omega) (by omega)).trans (h4 j hj))⟩
  · by_cases e : k = i
    · rw [e, up_s]
    · rw [up_n e]
      exact h2' k (by omega)
  · by_cases e : k = i
    · rw [e]
      exact ⟨(up_n (by omega)).trans hS.1, (up_n (by omega)).trans hS.2.1, hS.2.2⟩
    · have z := h3 k (by omega)
      exact ⟨(up_n (by omega)).trans ((hF _ (by omega) (by omega)).trans z.1), (up_n (by omega)).trans ((hF _ (by omega) (by omega)).trans z.2.1), z.2.2⟩
/-- all SHELVES and i WALKS are made -/
def C2 (h p : AH) (i : Nat) : Prop := p 100 = .inr (4, [.ref 101, .ref 124, .null, .null, .null, .int 0, .int 0]) ∧ (∃ g, p 101 = .inl (3, 11, .inr (.inr (.inr (.inr g)))) ∧ ∀ k, k < 11 → g k = some (102 + 2 * k)) ∧ (∀ k, k < 11 → ShF p (102 + 2 * k) (kdO k) (fun _ => 0) 0 0 0) ∧ (∃ g, p 124 = .inl (4, 6, .inr (.inr (.inr (.inr g)))) ∧ ∀ k, k < i → g k = some (125 + k)) ∧ (∀ k, k < i → WkF p (125 + k) false 102 0 0 0 0 0 0 false) ∧ ∀ j, j < 100 → p j = h j
theorem C2.next {h p p2 p3 : AH} {i b : Nat} {g : Nat → Option Nat} (hC : C2 h p i) (hi : i < 6) (hb : b = 125 + i) (hS : WkF p2 b false 102 0 0 0 0 0 0 false) (hF : ∀ j, j ≠ b → p2 j = p j) (hg : p2 124 = .inl (4, 6, .inr (.inr (.inr (.inr g))))) (h3 : p3 = up p2 124 (.inl (4, 6, .inr (.inr (.inr (.inr (up g i (some b)))))))) : C2 h p3 (i + 1) := by
  subst hb h3
  obtain ⟨h1, ⟨g1, h2, h2'⟩, h3, ⟨g', h5, h5'⟩, h6, h4⟩ := hC
  have eg : g' = g := by
    rw [hF 124 (by omega), h5] at hg
    cases hg
    rfl
  subst eg
  refine ⟨(up_n (by decide +kernel)).trans ((hF 100 (by omega)).trans h1), ⟨g1, (up_n (by decide +kernel)).trans ((hF 101 (by omega)).trans h2), h2'⟩, fun k hk => ?_, ⟨_, up_s, fun k hk => ?_⟩, fun k hk => ?_, fun j hj => (up_n (by omega)).trans ((hF j (by omega)).trans (h4 j hj))⟩
  · have z := h3 k hk
    exact ⟨(up_n (by omega)).trans ((hF _ (by omega)).trans z.1), (up_n (by omega)).trans ((hF _ (by omega)).trans z.2.1), z.2.2⟩
  · by_cases e : k = i
    · rw [e, up_s]
    · rw [up_n e]
      exact h5' k (by omega)
  · by_cases e : k = i
    · rw [e]
      exact ⟨(up_n (by omega)).trans hS.1, hS.2⟩
    · have z := h6 k (by omega)
      exact ⟨(up_n (by omega)).trans ((hF _ (by omega)).trans z.1), z.2⟩
theorem m_initOut {h : AH} {d bc bs n o : Nat} : SM SR0 MX4_init d bc bs [.ref o] h n (Det ivN h n) := by
  refine sm_of pn_OverwalksLaw_Out rfl (Nat.le_of_ble_eq_true rfl) ?_
  refine sw_aload_n (pc' := 1) rfl dX4_init_0 rfl ?_
  refine sw_objInit (pc' := 4) rfl dX4_init_1 w_384 w_69 w_70 (Nat.le_of_ble_eq_true rfl) ?_
  refine sw_ret (v := none) ⟨dX4_init_4, rfl⟩ ?_
  exact ⟨rfl, rfl, rfl⟩
def IC (h : AH) : ARes → AH → Nat → Prop := fun r h' n' => r = .inl none ∧ n' = 135 ∧ RC h' s0 ∧ ∀ i, i < 100 → h' i = h i
theorem m_initClass {h : AH} {d bc bs : Nat} (h0 : h 100 = .inr (4, dfs 4)) (hK : ∀ k, 1 ≤ k → k ≤ 5 → KdF h k) (hd : 2 ≤ d) (h1 : 40 ≤ bc) (h2 : 400 ≤ bs) : SM SR0 MX3_init d bc bs [.ref 100] h 101 (IC h) := by
  have f2 : FN 2 = 5 := rfl
  have f3 : FN 3 = 9 := rfl
  refine sm_of pn_Overwalks rfl (Nat.le_of_ble_eq_true rfl) ?_
  refine sw_aload_n (pc' := 1) rfl dX3_init_0 rfl ?_
  refine sw_objInit (pc' := 4) rfl dX3_init_1 w_68 w_69 w_70 (Nat.le_of_ble_eq_true rfl) ?_
  refine sw_aload_n (pc' := 5) rfl dX3_init_4 rfl ?_
  refine sw_bipush (pc' := 7) (v := 11) rfl dX3_init_5 (by decide +kernel) ?_
  refine sw_newq (t := 3) (len := 11) (pc' := 10) rfl dX3_init_7 (Or.inl rfl) (fun C e => by cases e; exact w_71) rfl (by decide +kernel) (by omega) (by omega) ?_
  refine sw_nm (fun g1 eg1 => ?_)
  have zg1 := (congrFun eg1 101).trans (up_s (h := h) (i := 101))
  have hC0 : C1 h g1 0 := ⟨(((congrFun eg1 100).trans (up_n (by omega))).trans h0), ⟨_, zg1, fun k hk => absurd hk (Nat.not_lt_zero _)⟩, fun k hk => absurd hk (Nat.not_lt_zero _), fun i hi => (congrFun eg1 i).trans ((up_n (by omega)).trans (rfl))⟩
  obtain ⟨gg0, hg0, -⟩ := id hC0.2.1
  refine sw_dup (pc' := 11) rfl dX3_init_10 rfl ?_
  refine sw_iconst (pc' := 12) (v := 0) rfl dX3_init_11 (by decide +kernel) ?_
  refine sw_new (ci := 2) (pc' := 15) rfl dX3_init_12 (by decide +kernel) w_71 w_73 w_40 (by omega) (Nat.le_trans (Nat.le_of_ble_eq_true rfl) (show 5 ≤ _ by omega)) ?_
  refine sw_nm (fun g2 eg2 => ?_)
  have zg2 := (congrFun eg2 102).trans (up_s (h := g1) (i := 102))
  refine sw_dup (pc' := 16) rfl dX3_init_15 rfl ?_
  refine sw_gets (pc' := 19) rfl dX3_init_16 (v := .ref 1) (by decide +kernel) w_74 ?_
  refine sw_I (M' := MX1_init) (d' := d - 1) (bc' := 1) (bs' := 12) (as := [_]) dX3_init_19 w_76 ok_X1_init (m_initShelf (b := 102) zg2 (by show 100 ≤ _; omega) (Nat.le_refl _) (Nat.le_refl _)) (by omega) (Nat.le_of_ble_eq_true rfl) (by omega) (by omega) (fun E h' n' _ z => shp_x z) (shp_k (fun s102 s102S s102F => ?_))
  have s102G : ∀ j, j ≠ 102 → j ≠ 102 + 1 → s102 j = g1 j := fun i h1 h2 => (s102F i h1 h2).trans ((congrFun eg2 i).trans ((up_n h1).trans (rfl)))
  refine sw_aast (j := 0) (pc' := 23) rfl dX3_init_22 ((s102G 101 (by decide +kernel) (by decide +kernel)).trans hg0) (Or.inl ⟨rfl, rfl⟩) (by show 100 ≤ _; omega) rfl (by decide +kernel) (by decide +kernel) s102S.1 (by show 100 ≤ _; omega) ?_
  refine sw_nm (fun r03 er03 => ?_)
  have hC1 : C1 h r03 1 := C1.next hC0 (by decide +kernel) (by decide +kernel) s102S s102G ((s102G 101 (by decide +kernel) (by decide +kernel)).trans hg0) er03
  obtain ⟨gg1, hg1, -⟩ := id hC1.2.1
  refine sw_dup (pc' := 24) rfl dX3_init_23 rfl ?_
  refine sw_iconst (pc' := 25) (v := 1) rfl dX3_init_24 (by decide +kernel) ?_
  refine sw_new (ci := 2) (pc' := 28) rfl dX3_init_25 (by decide +kernel) w_71 w_73 w_40 (by omega) (Nat.le_trans (Nat.le_of_ble_eq_true rfl) (show 5 ≤ _ by omega)) ?_
  refine sw_nm (fun g3 eg3 => ?_)
  have zg3 := (congrFun eg3 104).trans (up_s (h := r03) (i := 104))
  refine sw_dup (pc' := 29) rfl dX3_init_28 rfl ?_
  refine sw_gets (pc' := 32) rfl dX3_init_29 (v := .ref 1) (by decide +kernel) w_74 ?_
  refine sw_I (M' := MX1_init) (d' := d - 1) (bc' := 1) (bs' := 12) (as := [_]) dX3_init_32 w_76 ok_X1_init (m_initShelf (b := 104) zg3 (by show 100 ≤ _; omega) (Nat.le_refl _) (Nat.le_refl _)) (by omega) (Nat.le_of_ble_eq_true rfl) (by omega) (by omega) (fun E h' n' _ z => shp_x z) (shp_k (fun s104 s104S s104F => ?_))
  have s104G : ∀ j, j ≠ 104 → j ≠ 104 + 1 → s104 j = r03 j := fun i h1 h2 => (s104F i h1 h2).trans ((congrFun eg3 i).trans ((up_n h1).trans (rfl)))
  refine sw_aast (j := 1) (pc' := 36) rfl dX3_init_35 ((s104G 101 (by decide +kernel) (by decide +kernel)).trans hg1) (Or.inl ⟨rfl, rfl⟩) (by show 100 ≤ _; omega) rfl (by decide +kernel) (by decide +kernel) s104S.1 (by show 100 ≤ _; omega) ?_
  refine sw_nm (fun r13 er13 => ?_)
  have hC2 : C1 h r13 2 := C1.next hC1 (by decide +kernel) (by decide +kernel) s104S s104G ((s104G 101 (by decide +kernel) (by decide +kernel)).trans hg1) er13
  obtain ⟨gg2, hg2, -⟩ := id hC2.2.1
  refine sw_dup (pc' := 37) rfl dX3_init_36 rfl ?_
  refine sw_iconst (pc' := 38) (v := 2) rfl dX3_init_37 (by decide +kernel) ?_
  refine sw_new (ci := 2) (pc' := 41) rfl dX3_init_38 (by decide +kernel) w_71 w_73 w_40 (by omega) (Nat.le_trans (Nat.le_of_ble_eq_true rfl) (show 5 ≤ _ by omega)) ?_
  refine sw_nm (fun g4 eg4 => ?_)
  have zg4 := (congrFun eg4 106).trans (up_s (h := r13) (i := 106))
  refine sw_dup (pc' := 42) rfl dX3_init_41 rfl ?_
  refine sw_gets (pc' := 45) rfl dX3_init_42 (v := .ref 1) (by decide +kernel) w_74 ?_
  refine sw_I (M' := MX1_init) (d' := d - 1) (bc' := 1) (bs' := 12) (as := [_]) dX3_init_45 w_76 ok_X1_init (m_initShelf (b := 106) zg4 (by show 100 ≤ _; omega) (Nat.le_refl _) (Nat.le_refl _)) (by omega) (Nat.le_of_ble_eq_true rfl) (by omega) (by omega) (fun E h' n' _ z => shp_x z) (shp_k (fun s106 s106S s106F => ?_))
  have s106G : ∀ j, j ≠ 106 → j ≠ 106 + 1 → s106 j = r13 j := fun i h1 h2 => (s106F i h1 h2).trans ((congrFun eg4 i).trans ((up_n h1).trans (rfl)))
  refine sw_aast (j := 2) (pc' := 49) rfl dX3_init_48 ((s106G 101 (by decide +kernel) (by decide +kernel)).trans hg2) (Or.inl ⟨rfl, rfl⟩) (by show 100 ≤ _; omega) rfl (by decide +kernel) (by decide +kernel) s106S.1 (by show 100 ≤ _; omega) ?_
  refine sw_nm (fun r23 er23 => ?_)
  have hC3 : C1 h r23 3 := C1.next hC2 (by decide +kernel) (by decide +kernel) s106S s106G ((s106G 101 (by decide +kernel) (by decide +kernel)).trans hg2) er23
  obtain ⟨gg3, hg3, -⟩ := id hC3.2.1
  refine sw_dup (pc' := 50) rfl dX3_init_49 rfl ?_
  refine sw_iconst (pc' := 51) (v := 3) rfl dX3_init_50 (by decide +kernel) ?_
  refine sw_new (ci := 2) (pc' := 54) rfl dX3_init_51 (by decide +kernel) w_71 w_73 w_40 (by omega) (Nat.le_trans (Nat.le_of_ble_eq_true rfl) (show 5 ≤ _ by omega)) ?_
  refine sw_nm (fun g5 eg5 => ?_)
  have zg5 := (congrFun eg5 108).trans (up_s (h := r23) (i := 108))
  refine sw_dup (pc' := 55) rfl dX3_init_54 rfl ?_
  refine sw_gets (pc' := 58) rfl dX3_init_55 (v := .ref 2) (by decide +kernel) w_102 ?_
  refine sw_I (M' := MX1_init) (d' := d - 1) (bc' := 1) (bs' := 12) (as := [_]) dX3_init_58 w_76 ok_X1_init (m_initShelf (b := 108) zg5 (by show 100 ≤ _; omega) (Nat.le_refl _) (Nat.le_refl _)) (by omega) (Nat.le_of_ble_eq_true rfl) (by omega) (by omega) (fun E h' n' _ z => shp_x z) (shp_k (fun s108 s108S s108F => ?_))
  have s108G : ∀ j, j ≠ 108 → j ≠ 108 + 1 → s108 j = r23 j := fun i h1 h2 => (s108F i h1 h2).trans ((congrFun eg5 i).trans ((up_n h1).trans (rfl)))
  refine sw_aast (j := 3) (pc' := 62) rfl dX3_init_61 ((s108G 101 (by decide +kernel) (by decide +kernel)).trans hg3) (Or.inl ⟨rfl, rfl⟩) (by show 100 ≤ _; omega) rfl (by decide +kernel) (by decide +kernel) s108S.1 (by show 100 ≤ _; omega) ?_
  refine sw_nm (fun r33 er33 => ?_)
  have hC4 : C1 h r33 4 := C1.next hC3 (by decide +kernel) (by decide +kernel) s108S s108G ((s108G 101 (by decide +kernel) (by decide +kernel)).trans hg3) er33
  obtain ⟨gg4, hg4, -⟩ := id hC4.2.1
  refine sw_dup (pc' := 63) rfl dX3_init_62 rfl ?_
  refine sw_iconst (pc' := 64) (v := 4) rfl dX3_init_63 (by decide +kernel) ?_
  refine sw_new (ci := 2) (pc' := 67) rfl dX3_init_64 (by decide +kernel) w_71 w_73 w_40 (by omega) (Nat.le_trans (Nat.le_of_ble_eq_true rfl) (show 5 ≤ _ by omega)) ?_
  refine sw_nm (fun g6 eg6 => ?_)
  have zg6 := (congrFun eg6 110).trans (up_s (h := r33) (i := 110))
  refine sw_dup (pc' := 68) rfl dX3_init_67 rfl ?_
  refine sw_gets (pc' := 71) rfl dX3_init_68 (v := .ref 3) (by decide +kernel) w_104 ?_
  refine sw_I (M' := MX1_init) (d' := d - 1) (bc' := 1) (bs' := 12) (as := [_]) dX3_init_71 w_76 ok_X1_init (m_initShelf (b := 110) zg6 (by show 100 ≤ _; omega) (Nat.le_refl _) (Nat.le_refl _)) (by omega) (Nat.le_of_ble_eq_true rfl) (by omega) (by omega) (fun E h' n' _ z => shp_x z) (shp_k (fun s110 s110S s110F => ?_))
  have s110G : ∀ j, j ≠ 110 → j ≠ 110 + 1 → s110 j = r33 j := fun i h1 h2 => (s110F i h1 h2).trans ((congrFun eg6 i).trans ((up_n h1).trans (rfl)))
  refine sw_aast (j := 4) (pc' := 75) rfl dX3_init_74 ((s110G 101 (by decide +kernel) (by decide +kernel)).trans hg4) (Or.inl ⟨rfl, rfl⟩) (by show 100 ≤ _; omega) rfl (by decide +kernel) (by decide +kernel) s110S.1 (by show 100 ≤ _; omega) ?_
  refine sw_nm (fun r43 er43 => ?_)
  have hC5 : C1 h r43 5 := C1.next hC4 (by decide +kernel) (by decide +kernel) s110S s110G ((s110G 101 (by decide +kernel) (by decide +kernel)).trans hg4) er43
  obtain ⟨gg5, hg5, -⟩ := id hC5.2.1
  refine sw_dup (pc' := 76) rfl dX3_init_75 rfl ?_
  refine sw_iconst (pc' := 77) (v := 5) rfl dX3_init_76 (by decide +kernel) ?_
  refine sw_new (ci := 2) (pc' := 80) rfl dX3_init_77 (by decide +kernel) w_71 w_73 w_40 (by omega) (Nat.le_trans (Nat.le_of_ble_eq_true rfl) (show 5 ≤ _ by omega)) ?_
  refine sw_nm (fun g7 eg7 => ?_)
  have zg7 := (congrFun eg7 112).trans (up_s (h := r43) (i := 112))
  refine sw_dup (pc' := 81) rfl dX3_init_80 rfl ?_
  refine sw_gets (pc' := 84) rfl dX3_init_81 (v := .ref 4) (by decide +kernel) w_106 ?_
  refine sw_I (M' := MX1_init) (d' := d - 1) (bc' := 1) (bs' := 12) (as := [_]) dX3_init_84 w_76 ok_X1_init (m_initShelf (b := 112) zg7 (by show 100 ≤ _; omega) (Nat.le_refl _) (Nat.le_refl _)) (by omega) (Nat.le_of_ble_eq_true rfl) (by omega) (by omega) (fun E h' n' _ z => shp_x z) (shp_k (fun s112 s112S s112F => ?_))
  have s112G : ∀ j, j ≠ 112 → j ≠ 112 + 1 → s112 j = r43 j := fun i h1 h2 => (s112F i h1 h2).trans ((congrFun eg7 i).trans ((up_n h1).trans (rfl)))
  refine sw_aast (j := 5) (pc' := 88) rfl dX3_init_87 ((s112G 101 (by decide +kernel) (by decide +kernel)).trans hg5) (Or.inl ⟨rfl, rfl⟩) (by show 100 ≤ _; omega) rfl (by decide +kernel) (by decide +kernel) s112S.1 (by show 100 ≤ _; omega) ?_
  refine sw_nm (fun r53 er53 => ?_)
  have hC6 : C1 h r53 6 := C1.next hC5 (by decide +kernel) (by decide +kernel) s112S s112G ((s112G 101 (by decide +kernel) (by decide +kernel)).trans hg5) er53
  obtain ⟨gg6, hg6, -⟩ := id hC6.2.1
  refine sw_dup (pc' := 89) rfl dX3_init_88 rfl ?_
  refine sw_bipush (pc' := 91) (v := 6) rfl dX3_init_89 (by decide +kernel) ?_
  refine sw_new (ci := 2) (pc' := 94) rfl dX3_init_91 (by decide +kernel) w_71 w_73 w_40 (by omega) (Nat.le_trans (Nat.le_of_ble_eq_true rfl) (show 5 ≤ _ by omega)) ?_
  refine sw_nm (fun g8 eg8 => ?_)
  have zg8 := (congrFun eg8 114).trans (up_s (h := r53) (i := 114))
  refine sw_dup (pc' := 95) rfl dX3_init_94 rfl ?_
  refine sw_gets (pc' := 98) rfl dX3_init_95 (v := .ref 5) (by decide +kernel) w_108 ?_
  refine sw_I (M' := MX1_init) (d' := d - 1) (bc' := 1) (bs' := 12) (as := [_]) dX3_init_98 w_76 ok_X1_init (m_initShelf (b := 114) zg8 (by show 100 ≤ _; omega) (Nat.le_refl _) (Nat.le_refl _)) (by omega) (Nat.le_of_ble_eq_true rfl) (by omega) (by omega) (fun E h' n' _ z => shp_x z) (shp_k (fun s114 s114S s114F => ?_))
  have s114G : ∀ j, j ≠ 114 → j ≠ 114 + 1 → s114 j = r53 j := fun i h1 h2 => (s114F i h1 h2).trans ((congrFun eg8 i).trans ((up_n h1).trans (rfl)))
  refine sw_aast (j := 6) (pc' := 102) rfl dX3_init_101 ((s114G 101 (by decide +kernel) (by decide +kernel)).trans hg6) (Or.inl ⟨rfl, rfl⟩) (by show 100 ≤ _; omega) rfl (by decide +kernel) (by decide +kernel) s114S.1 (by show 100 ≤ _; omega) ?_
  refine sw_nm (fun r63 er63 => ?_)
  have hC7 : C1 h r63 7 := C1.next hC6 (by decide +kernel) (by decide +kernel) s114S s114G ((s114G 101 (by decide +kernel) (by decide +kernel)).trans hg6) er63
  obtain ⟨gg7, hg7, -⟩ := id hC7.2.1
  refine sw_dup (pc' := 103) rfl dX3_init_102 rfl ?_
  refine sw_bipush (pc' := 105) (v := 7) rfl dX3_init_103 (by decide +kernel) ?_
  refine sw_new (ci := 2) (pc' := 108) rfl dX3_init_105 (by decide +kernel) w_71 w_73 w_40 (by omega) (Nat.le_trans (Nat.le_of_ble_eq_true rfl) (show 5 ≤ _ by omega)) ?_
  refine sw_nm (fun g9 eg9 => ?_)
  have zg9 := (congrFun eg9 116).trans (up_s (h := r63) (i := 116))
  refine sw_dup (pc' := 109) rfl dX3_init_108 rfl ?_
  refine sw_gets (pc' := 112) rfl dX3_init_109 (v := .ref 5) (by decide +kernel) w_108 ?_
  refine sw_I (M' := MX1_init) (d' := d - 1) (bc' := 1) (bs' := 12) (as := [_]) dX3_init_112 w_76 ok_X1_init (m_initShelf (b := 116) zg9 (by show 100 ≤ _; omega) (Nat.le_refl _) (Nat.le_refl _)) (by omega) (Nat.le_of_ble_eq_true rfl) (by omega) (by omega) (fun E h' n' _ z => shp_x z) (shp_k (fun s116 s116S s116F => ?_))
  have s116G : ∀ j, j ≠ 116 → j ≠ 116 + 1 → s116 j = r63 j := fun i h1 h2 => (s116F i h1 h2).trans ((congrFun eg9 i).trans ((up_n h1).trans (rfl)))
  refine sw_aast (j := 7) (pc' := 116) rfl dX3_init_115 ((s116G 101 (by decide +kernel) (by decide +kernel)).trans hg7) (Or.inl ⟨rfl, rfl⟩) (by show 100 ≤ _; omega) rfl (by decide +kernel) (by decide +kernel) s116S.1 (by show 100 ≤ _; omega) ?_
  refine sw_nm (fun r73 er73 => ?_)
  have hC8 : C1 h r73 8 := C1.next hC7 (by decide +kernel) (by decide +kernel) s116S s116G ((s116G 101 (by decide +kernel) (by decide +kernel)).trans hg7) er73
  obtain ⟨gg8, hg8, -⟩ := id hC8.2.1
  refine sw_dup (pc' := 117) rfl dX3_init_116 rfl ?_
  refine sw_bipush (pc' := 119) (v := 8) rfl dX3_init_117 (by decide +kernel) ?_
  refine sw_new (ci := 2) (pc' := 122) rfl dX3_init_119 (by decide +kernel) w_71 w_73 w_40 (by omega) (Nat.le_trans (Nat.le_of_ble_eq_true rfl) (show 5 ≤ _ by omega)) ?_
  refine sw_nm (fun g10 eg10 => ?_)
  have zg10 := (congrFun eg10 118).trans (up_s (h := r73) (i := 118))
  refine sw_dup (pc' := 123) rfl dX3_init_122 rfl ?_
  refine sw_gets (pc' := 126) rfl dX3_init_123 (v := .ref 1) (by decide +kernel) w_74 ?_
  refine sw_I (M' := MX1_init) (d' := d - 1) (bc' := 1) (bs' := 12) (as := [_]) dX3_init_126 w_76 ok_X1_init (m_initShelf (b := 118) zg10 (by show 100 ≤ _; omega) (Nat.le_refl _) (Nat.le_refl _)) (by omega) (Nat.le_of_ble_eq_true rfl) (by omega) (by omega) (fun E h' n' _ z => shp_x z) (shp_k (fun s118 s118S s118F => ?_))
  have s118G : ∀ j, j ≠ 118 → j ≠ 118 + 1 → s118 j = r73 j := fun i h1 h2 => (s118F i h1 h2).trans ((congrFun eg10 i).trans ((up_n h1).trans (rfl)))
  refine sw_aast (j := 8) (pc' := 130) rfl dX3_init_129 ((s118G 101 (by decide +kernel) (by decide +kernel)).trans hg8) (Or.inl ⟨rfl, rfl⟩) (by show 100 ≤ _; omega) rfl (by decide +kernel) (by decide +kernel) s118S.1 (by show 100 ≤ _; omega) ?_
  refine sw_nm (fun r83 er83 => ?_)
  have hC9 : C1 h r83 9 := C1.next hC8 (by decide +kernel) (by decide +kernel) s118S s118G ((s118G 101 (by decide +kernel) (by decide +kernel)).trans hg8) er83
  obtain ⟨gg9, hg9, -⟩ := id hC9.2.1
  refine sw_dup (pc' := 131) rfl dX3_init_130 rfl ?_
  refine sw_bipush (pc' := 133) (v := 9) rfl dX3_init_131 (by decide +kernel) ?_
  refine sw_new (ci := 2) (pc' := 136) rfl dX3_init_133 (by decide +kernel) w_71 w_73 w_40 (by omega) (Nat.le_trans (Nat.le_of_ble_eq_true rfl) (show 5 ≤ _ by omega)) ?_
  refine sw_nm (fun g11 eg11 => ?_)
  have zg11 := (congrFun eg11 120).trans (up_s (h := r83) (i := 120))
  refine sw_dup (pc' := 137) rfl dX3_init_136 rfl ?_
  refine sw_gets (pc' := 140) rfl dX3_init_137 (v := .ref 1) (by decide +kernel) w_74 ?_
  refine sw_I (M' := MX1_init) (d' := d - 1) (bc' := 1) (bs' := 12) (as := [_]) dX3_init_140 w_76 ok_X1_init (m_initShelf (b := 120) zg11 (by show 100 ≤ _; omega) (Nat.le_refl _) (Nat.le_refl _)) (by omega) (Nat.le_of_ble_eq_true rfl) (by omega) (by omega) (fun E h' n' _ z => shp_x z) (shp_k (fun s120 s120S s120F => ?_))
  have s120G : ∀ j, j ≠ 120 → j ≠ 120 + 1 → s120 j = r83 j := fun i h1 h2 => (s120F i h1 h2).trans ((congrFun eg11 i).trans ((up_n h1).trans (rfl)))
  refine sw_aast (j := 9) (pc' := 144) rfl dX3_init_143 ((s120G 101 (by decide +kernel) (by decide +kernel)).trans hg9) (Or.inl ⟨rfl, rfl⟩) (by show 100 ≤ _; omega) rfl (by decide +kernel) (by decide +kernel) s120S.1 (by show 100 ≤ _; omega) ?_
  refine sw_nm (fun r93 er93 => ?_)
  have hC10 : C1 h r93 10 := C1.next hC9 (by decide +kernel) (by decide +kernel) s120S s120G ((s120G 101 (by decide +kernel) (by decide +kernel)).trans hg9) er93
  obtain ⟨gg10, hg10, -⟩ := id hC10.2.1
  refine sw_dup (pc' := 145) rfl dX3_init_144 rfl ?_
  refine sw_bipush (pc' := 147) (v := 10) rfl dX3_init_145 (by decide +kernel) ?_
  refine sw_new (ci := 2) (pc' := 150) rfl dX3_init_147 (by decide +kernel) w_71 w_73 w_40 (by omega) (Nat.le_trans (Nat.le_of_ble_eq_true rfl) (show 5 ≤ _ by omega)) ?_
  refine sw_nm (fun g12 eg12 => ?_)
  have zg12 := (congrFun eg12 122).trans (up_s (h := r93) (i := 122))
  refine sw_dup (pc' := 151) rfl dX3_init_150 rfl ?_
  refine sw_gets (pc' := 154) rfl dX3_init_151 (v := .ref 1) (by decide +kernel) w_74 ?_
  refine sw_I (M' := MX1_init) (d' := d - 1) (bc' := 1) (bs' := 12) (as := [_]) dX3_init_154 w_76 ok_X1_init (m_initShelf (b := 122) zg12 (by show 100 ≤ _; omega) (Nat.le_refl _) (Nat.le_refl _)) (by omega) (Nat.le_of_ble_eq_true rfl) (by omega) (by omega) (fun E h' n' _ z => shp_x z) (shp_k (fun s122 s122S s122F => ?_))
  have s122G : ∀ j, j ≠ 122 → j ≠ 122 + 1 → s122 j = r93 j := fun i h1 h2 => (s122F i h1 h2).trans ((congrFun eg12 i).trans ((up_n h1).trans (rfl)))
  refine sw_aast (j := 10) (pc' := 158) rfl dX3_init_157 ((s122G 101 (by decide +kernel) (by decide +kernel)).trans hg10) (Or.inl ⟨rfl, rfl⟩) (by show 100 ≤ _; omega) rfl (by decide +kernel) (by decide +kernel) s122S.1 (by show 100 ≤ _; omega) ?_
  refine sw_nm (fun r103 er103 => ?_)
  have hC11 : C1 h r103 11 := C1.next hC10 (by decide +kernel) (by decide +kernel) s122S s122G ((s122G 101 (by decide +kernel) (by decide +kernel)).trans hg10) er103
  obtain ⟨gg11, hg11, -⟩ := id hC11.2.1
  have hC11e := hC11.2.1
  obtain ⟨gg11b, hg11b, hC11e⟩ := hC11e
  have eg11 : gg11b = gg11 := by rw [hg11] at hg11b; cases hg11b; rfl
  subst eg11
  refine sw_putfF (ci := 4) (k := 0) (pc' := 161) rfl dX3_init_158 (by decide +kernel) (by decide +kernel) w_150 rfl rfl rfl hC11.1 (Nat.le_refl _) (Nat.le_of_ble_eq_true rfl) rfl rfl ?_
  refine sw_nm (fun g13 eg13 => ?_)
  have zg13 := (congrFun eg13 100).trans (up_s (h := r103) (i := 100))
  refine sw_aload_n (pc' := 162) rfl dX3_init_161 rfl ?_
  refine sw_bipush (pc' := 164) (v := 6) rfl dX3_init_162 (by decide +kernel) ?_
  refine sw_newq (t := 4) (len := 6) (pc' := 167) rfl dX3_init_164 (Or.inr rfl) (fun C e => by cases e; exact w_110) rfl (by decide +kernel) (by omega) (by omega) ?_
  refine sw_nm (fun g14 eg14 => ?_)
  have zg14 := (congrFun eg14 124).trans (up_s (h := g13) (i := 124))
  refine sw_putfF (ci := 4) (k := 1) (pc' := 170) rfl dX3_init_167 (by decide +kernel) (by decide +kernel) w_151 rfl rfl rfl (((congrFun eg14 100).trans (up_n (by omega))).trans zg13) (Nat.le_refl _) (Nat.le_of_ble_eq_true rfl) rfl rfl ?_
  refine sw_nm (fun g15 eg15 => ?_)
  have zg15 := (congrFun eg15 100).trans (up_s (h := g14) (i := 100))
  have hD0 : C2 h g15 0 := ⟨zg15, ⟨gg11b, (((congrFun eg15 101).trans (up_n (by omega))).trans (((congrFun eg14 101).trans (up_n (by omega))).trans (((congrFun eg13 101).trans (up_n (by omega))).trans hg11))), hC11e⟩, fun k hk => ⟨(show g15 (102 + 2 * k) = r103 (102 + 2 * k) from (congrFun eg15 (102 + 2 * k)).trans ((up_n (by omega)).trans ((congrFun eg14 (102 + 2 * k)).trans ((up_n (by omega)).trans ((congrFun eg13 (102 + 2 * k)).trans ((up_n (by omega)).trans (rfl))))))).trans (hC11.2.2.1 k hk).1, (show g15 (102 + 2 * k + 1) = r103 (102 + 2 * k + 1) from (congrFun eg15 (102 + 2 * k + 1)).trans ((up_n (by omega)).trans ((congrFun eg14 (102 + 2 * k + 1)).trans ((up_n (by omega)).trans ((congrFun eg13 (102 + 2 * k + 1)).trans ((up_n (by omega)).trans (rfl))))))).trans (hC11.2.2.1 k hk).2.1, (hC11.2.2.1 k hk).2.2⟩, ⟨_, (((congrFun eg15 124).trans (up_n (by omega))).trans zg14), fun k hk => absurd hk (Nat.not_lt_zero _)⟩, fun k hk => absurd hk (Nat.not_lt_zero _), fun i hi => (show g15 i = r103 i from (congrFun eg15 i).trans ((up_n (by omega)).trans ((congrFun eg14 i).trans ((up_n (by omega)).trans ((congrFun eg13 i).trans ((up_n (by omega)).trans (rfl))))))).trans (hC11.2.2.2 i hi)⟩
  obtain ⟨gw0, hgw0, -⟩ := id hD0.2.2.2.1
  obtain ⟨gs0, hgs0, egs0⟩ := id hD0.2.1
  refine sw_iconst (pc' := 171) (v := 0) rfl dX3_init_170 (by decide +kernel) ?_
  refine sw_istore_n (pc' := 172) (lv' := [(1, _), (0, _)]) rfl dX3_init_171 (by decide +kernel) rfl ?_
  refine sw_iload_n (pc' := 173) rfl dX3_init_172 rfl ?_
  refine sw_bipush (pc' := 175) (v := 6) rfl dX3_init_173 (by decide +kernel) ?_
  refine sw_icmp_ge (pc' := 178) (tgt := 203) rfl dX3_init_175 (by decide +kernel) (fun c175 => ?_) (fun c175 => ?_)
  · exact absurd c175 (by decide +kernel)
  · refine sw_aload_n (pc' := 179) rfl dX3_init_178 rfl ?_
    refine sw_getf (ci := 4) (k := 1) (pc' := 182) rfl dX3_init_179 (by decide +kernel) w_151 hD0.1 rfl ?_
    refine sw_iload_n (pc' := 183) rfl dX3_init_182 rfl ?_
    refine sw_new (ci := 3) (pc' := 186) rfl dX3_init_183 (by decide +kernel) w_110 w_112 w_43 (by omega) (Nat.le_trans (Nat.le_of_ble_eq_true rfl) (show 9 ≤ _ by omega)) ?_
    refine sw_nm (fun g16 eg16 => ?_)
    have zg16 := (congrFun eg16 125).trans (up_s (h := g15) (i := 125))
    refine sw_dup (pc' := 187) rfl dX3_init_186 rfl ?_
    refine sw_aload_n (pc' := 188) rfl dX3_init_187 rfl ?_
    refine sw_getf (ci := 4) (k := 0) (pc' := 191) rfl dX3_init_188 (by decide +kernel) w_150 (((congrFun eg16 100).trans (up_n (by omega))).trans hD0.1) rfl ?_
    refine sw_iconst (pc' := 192) (v := 0) rfl dX3_init_191 (by decide +kernel) ?_
    refine sw_aald (j := 0) (pc' := 193) rfl dX3_init_192 (((congrFun eg16 101).trans (up_n (by omega))).trans hgs0) (by decide +kernel) (by show 100 ≤ _; omega) rfl (by omega) (by decide +kernel) (egs0 0 (by decide +kernel)) ?_
    refine sw_I (M' := MX2_init) (d' := d - 1) (bc' := 0) (bs' := 0) (as := [_]) dX3_init_193 w_113 ok_X2_init (m_initWalk zg16 (by show 100 ≤ _; omega)) (by omega) (Nat.le_of_ble_eq_true rfl) (Nat.zero_le _) (Nat.zero_le _) (fun E h' n' _ z => wkp_x z) (wkp_k (fun s125 s125W s125F => ?_))
    have s125G : ∀ j, j ≠ 125 → s125 j = g15 j := fun i h1 => (s125F i h1).trans ((congrFun eg16 i).trans ((up_n h1).trans (rfl)))
    refine sw_aast (j := 0) (pc' := 197) rfl dX3_init_196 ((s125G 124 (by decide +kernel)).trans hgw0) (Or.inr ⟨rfl, rfl⟩) (by show 100 ≤ _; omega) rfl (by decide +kernel) (by decide +kernel) s125W.1 (by show 100 ≤ _; omega) ?_
    refine sw_nm (fun r04 er04 => ?_)
    have hD1 : C2 h r04 1 := C2.next hD0 (by decide +kernel) (by decide +kernel) s125W s125G ((s125G 124 (by decide +kernel)).trans hgw0) er04
    obtain ⟨gw1, hgw1, -⟩ := id hD1.2.2.2.1
    obtain ⟨gs1, hgs1, egs1⟩ := id hD1.2.1
    refine sw_iinc (pc' := 200) (lv' := [(1, _), (0, _)]) (v := 1) rfl dX3_init_197 rfl rfl (by decide +kernel) rfl ?_
    refine sw_goto (tgt := 172) dX3_init_200 (by decide +kernel) ?_
    refine sw_iload_n (pc' := 173) rfl dX3_init_172 rfl ?_
    refine sw_bipush (pc' := 175) (v := 6) rfl dX3_init_173 (by decide +kernel) ?_
    refine sw_icmp_ge (pc' := 178) (tgt := 203) rfl dX3_init_175 (by decide +kernel) (fun c175 => ?_) (fun c175 => ?_)
    · exact absurd c175 (by decide +kernel)
    · refine sw_aload_n (pc' := 179) rfl dX3_init_178 rfl ?_
      refine sw_getf (ci := 4) (k := 1) (pc' := 182) rfl dX3_init_179 (by decide +kernel) w_151 hD1.1 rfl ?_
      refine sw_iload_n (pc' := 183) rfl dX3_init_182 rfl ?_
      refine sw_new (ci := 3) (pc' := 186) rfl dX3_init_183 (by decide +kernel) w_110 w_112 w_43 (by omega) (Nat.le_trans (Nat.le_of_ble_eq_true rfl) (show 9 ≤ _ by omega)) ?_
      refine sw_nm (fun g17 eg17 => ?_)
      have zg17 := (congrFun eg17 126).trans (up_s (h := r04) (i := 126))
      refine sw_dup (pc' := 187) rfl dX3_init_186 rfl ?_
      refine sw_aload_n (pc' := 188) rfl dX3_init_187 rfl ?_
      refine sw_getf (ci := 4) (k := 0) (pc' := 191) rfl dX3_init_188 (by decide +kernel) w_150 (((congrFun eg17 100).trans (up_n (by omega))).trans hD1.1) rfl ?_
      refine sw_iconst (pc' := 192) (v := 0) rfl dX3_init_191 (by decide +kernel) ?_
      refine sw_aald (j := 0) (pc' := 193) rfl dX3_init_192 (((congrFun eg17 101).trans (up_n (by omega))).trans hgs1) (by decide +kernel) (by show 100 ≤ _; omega) rfl (by omega) (by decide +kernel) (egs1 0 (by decide +kernel)) ?_
      refine sw_I (M' := MX2_init) (d' := d - 1) (bc' := 0) (bs' := 0) (as := [_]) dX3_init_193 w_113 ok_X2_init (m_initWalk zg17 (by show 100 ≤ _; omega)) (by omega) (Nat.le_of_ble_eq_true rfl) (Nat.zero_le _) (Nat.zero_le _) (fun E h' n' _ z => wkp_x z) (wkp_k (fun s126 s126W s126F => ?_))
      have s126G : ∀ j, j ≠ 126 → s126 j = r04 j := fun i h1 => (s126F i h1).trans ((congrFun eg17 i).trans ((up_n h1).trans (rfl)))
      refine sw_aast (j := 1) (pc' := 197) rfl dX3_init_196 ((s126G 124 (by decide +kernel)).trans hgw1) (Or.inr ⟨rfl, rfl⟩) (by show 100 ≤ _; omega) rfl (by decide +kernel) (by decide +kernel) s126W.1 (by show 100 ≤ _; omega) ?_
      refine sw_nm (fun r14 er14 => ?_)
      have hD2 : C2 h r14 2 := C2.next hD1 (by decide +kernel) (by decide +kernel) s126W s126G ((s126G 124 (by decide +kernel)).trans hgw1) er14
      obtain ⟨gw2, hgw2, -⟩ := id hD2.2.2.2.1
      obtain ⟨gs2, hgs2, egs2⟩ := id hD2.2.1
      refine sw_iinc (pc' := 200) (lv' := [(1, _), (0, _)]) (v := 2) rfl dX3_init_197 rfl rfl (by decide +kernel) rfl ?_
      refine sw_goto (tgt := 172) dX3_init_200 (by decide +kernel) ?_
      refine sw_iload_n (pc' := 173) rfl dX3_init_172 rfl ?_
      refine sw_bipush (pc' := 175) (v := 6) rfl dX3_init_173 (by decide +kernel) ?_
      refine sw_icmp_ge (pc' := 178) (tgt := 203) rfl dX3_init_175 (by decide +kernel) (fun c175 => ?_) (fun c175 => ?_)
      · exact absurd c175 (by decide +kernel)
      · refine sw_aload_n (pc' := 179) rfl dX3_init_178 rfl ?_
        refine sw_getf (ci := 4) (k := 1) (pc' := 182) rfl dX3_init_179 (by decide +kernel) w_151 hD2.1 rfl ?_
        refine sw_iload_n (pc' := 183) rfl dX3_init_182 rfl ?_
        refine sw_new (ci := 3) (pc' := 186) rfl dX3_init_183 (by decide +kernel) w_110 w_112 w_43 (by omega) (Nat.le_trans (Nat.le_of_ble_eq_true rfl) (show 9 ≤ _ by omega)) ?_
        refine sw_nm (fun g18 eg18 => ?_)
        have zg18 := (congrFun eg18 127).trans (up_s (h := r14) (i := 127))
        refine sw_dup (pc' := 187) rfl dX3_init_186 rfl ?_
        refine sw_aload_n (pc' := 188) rfl dX3_init_187 rfl ?_
        refine sw_getf (ci := 4) (k := 0) (pc' := 191) rfl dX3_init_188 (by decide +kernel) w_150 (((congrFun eg18 100).trans (up_n (by omega))).trans hD2.1) rfl ?_
        refine sw_iconst (pc' := 192) (v := 0) rfl dX3_init_191 (by decide +kernel) ?_
        refine sw_aald (j := 0) (pc' := 193) rfl dX3_init_192 (((congrFun eg18 101).trans (up_n (by omega))).trans hgs2) (by decide +kernel) (by show 100 ≤ _; omega) rfl (by omega) (by decide +kernel) (egs2 0 (by decide +kernel)) ?_
        refine sw_I (M' := MX2_init) (d' := d - 1) (bc' := 0) (bs' := 0) (as := [_]) dX3_init_193 w_113 ok_X2_init (m_initWalk zg18 (by show 100 ≤ _; omega)) (by omega) (Nat.le_of_ble_eq_true rfl) (Nat.zero_le _) (Nat.zero_le _) (fun E h' n' _ z => wkp_x z) (wkp_k (fun s127 s127W s127F => ?_))
        have s127G : ∀ j, j ≠ 127 → s127 j = r14 j := fun i h1 => (s127F i h1).trans ((congrFun eg18 i).trans ((up_n h1).trans (rfl)))
        refine sw_aast (j := 2) (pc' := 197) rfl dX3_init_196 ((s127G 124 (by decide +kernel)).trans hgw2) (Or.inr ⟨rfl, rfl⟩) (by show 100 ≤ _; omega) rfl (by decide +kernel) (by decide +kernel) s127W.1 (by show 100 ≤ _; omega) ?_
        refine sw_nm (fun r24 er24 => ?_)
        have hD3 : C2 h r24 3 := C2.next hD2 (by decide +kernel) (by decide +kernel) s127W s127G ((s127G 124 (by decide +kernel)).trans hgw2) er24
        obtain ⟨gw3, hgw3, -⟩ := id hD3.2.2.2.1
        obtain ⟨gs3, hgs3, egs3⟩ := id hD3.2.1
        refine sw_iinc (pc' := 200) (lv' := [(1, _), (0, _)]) (v := 3) rfl dX3_init_197 rfl rfl (by decide +kernel) rfl ?_
        refine sw_goto (tgt := 172) dX3_init_200 (by decide +kernel) ?_
        refine sw_iload_n (pc' := 173) rfl dX3_init_172 rfl ?_
        refine sw_bipush (pc' := 175) (v := 6) rfl dX3_init_173 (by decide +kernel) ?_
        refine sw_icmp_ge (pc' := 178) (tgt := 203) rfl dX3_init_175 (by decide +kernel) (fun c175 => ?_) (fun c175 => ?_)
        · exact absurd c175 (by decide +kernel)
        · refine sw_aload_n (pc' := 179) rfl dX3_init_178 rfl ?_
          refine sw_getf (ci := 4) (k := 1) (pc' := 182) rfl dX3_init_179 (by decide +kernel) w_151 hD3.1 rfl ?_
          refine sw_iload_n (pc' := 183) rfl dX3_init_182 rfl ?_
          refine sw_new (ci := 3) (pc' := 186) rfl dX3_init_183 (by decide +kernel) w_110 w_112 w_43 (by omega) (Nat.le_trans (Nat.le_of_ble_eq_true rfl) (show 9 ≤ _ by omega)) ?_
          refine sw_nm (fun g19 eg19 => ?_)
          have zg19 := (congrFun eg19 128).trans (up_s (h := r24) (i := 128))
          refine sw_dup (pc' := 187) rfl dX3_init_186 rfl ?_
          refine sw_aload_n (pc' := 188) rfl dX3_init_187 rfl ?_
          refine sw_getf (ci := 4) (k := 0) (pc' := 191) rfl dX3_init_188 (by decide +kernel) w_150 (((congrFun eg19 100).trans (up_n (by omega))).trans hD3.1) rfl ?_
          refine sw_iconst (pc' := 192) (v := 0) rfl dX3_init_191 (by decide +kernel) ?_
          refine sw_aald (j := 0) (pc' := 193) rfl dX3_init_192 (((congrFun eg19 101).trans (up_n (by omega))).trans hgs3) (by decide +kernel) (by show 100 ≤ _; omega) rfl (by omega) (by decide +kernel) (egs3 0 (by decide +kernel)) ?_
          refine sw_I (M' := MX2_init) (d' := d - 1) (bc' := 0) (bs' := 0) (as := [_]) dX3_init_193 w_113 ok_X2_init (m_initWalk zg19 (by show 100 ≤ _; omega)) (by omega) (Nat.le_of_ble_eq_true rfl) (Nat.zero_le _) (Nat.zero_le _) (fun E h' n' _ z => wkp_x z) (wkp_k (fun s128 s128W s128F => ?_))
          have s128G : ∀ j, j ≠ 128 → s128 j = r24 j := fun i h1 => (s128F i h1).trans ((congrFun eg19 i).trans ((up_n h1).trans (rfl)))
          refine sw_aast (j := 3) (pc' := 197) rfl dX3_init_196 ((s128G 124 (by decide +kernel)).trans hgw3) (Or.inr ⟨rfl, rfl⟩) (by show 100 ≤ _; omega) rfl (by decide +kernel) (by decide +kernel) s128W.1 (by show 100 ≤ _; omega) ?_
          refine sw_nm (fun r34 er34 => ?_)
          have hD4 : C2 h r34 4 := C2.next hD3 (by decide +kernel) (by decide +kernel) s128W s128G ((s128G 124 (by decide +kernel)).trans hgw3) er34
          obtain ⟨gw4, hgw4, -⟩ := id hD4.2.2.2.1
          obtain ⟨gs4, hgs4, egs4⟩ := id hD4.2.1
          refine sw_iinc (pc' := 200) (lv' := [(1, _), (0, _)]) (v := 4) rfl dX3_init_197 rfl rfl (by decide +kernel) rfl ?_
          refine sw_goto (tgt := 172) dX3_init_200 (by decide +kernel) ?_
          refine sw_iload_n (pc' := 173) rfl dX3_init_172 rfl ?_
          refine sw_bipush (pc' := 175) (v := 6) rfl dX3_init_173 (by decide +kernel) ?_
          refine sw_icmp_ge (pc' := 178) (tgt := 203) rfl dX3_init_175 (by decide +kernel) (fun c175 => ?_) (fun c175 => ?_)
          · exact absurd c175 (by decide +kernel)
          · refine sw_aload_n (pc' := 179) rfl dX3_init_178 rfl ?_
            refine sw_getf (ci := 4) (k := 1) (pc' := 182) rfl dX3_init_179 (by decide +kernel) w_151 hD4.1 rfl ?_
            refine sw_iload_n (pc' := 183) rfl dX3_init_182 rfl ?_
            refine sw_new (ci := 3) (pc' := 186) rfl dX3_init_183 (by decide +kernel) w_110 w_112 w_43 (by omega) (Nat.le_trans (Nat.le_of_ble_eq_true rfl) (show 9 ≤ _ by omega)) ?_
            refine sw_nm (fun g20 eg20 => ?_)
            have zg20 := (congrFun eg20 129).trans (up_s (h := r34) (i := 129))
            refine sw_dup (pc' := 187) rfl dX3_init_186 rfl ?_
            refine sw_aload_n (pc' := 188) rfl dX3_init_187 rfl ?_
            refine sw_getf (ci := 4) (k := 0) (pc' := 191) rfl dX3_init_188 (by decide +kernel) w_150 (((congrFun eg20 100).trans (up_n (by omega))).trans hD4.1) rfl ?_
            refine sw_iconst (pc' := 192) (v := 0) rfl dX3_init_191 (by decide +kernel) ?_
            refine sw_aald (j := 0) (pc' := 193) rfl dX3_init_192 (((congrFun eg20 101).trans (up_n (by omega))).trans hgs4) (by decide +kernel) (by show 100 ≤ _; omega) rfl (by omega) (by decide +kernel) (egs4 0 (by decide +kernel)) ?_
            refine sw_I (M' := MX2_init) (d' := d - 1) (bc' := 0) (bs' := 0) (as := [_]) dX3_init_193 w_113 ok_X2_init (m_initWalk zg20 (by show 100 ≤ _; omega)) (by omega) (Nat.le_of_ble_eq_true rfl) (Nat.zero_le _) (Nat.zero_le _) (fun E h' n' _ z => wkp_x z) (wkp_k (fun s129 s129W s129F => ?_))
            have s129G : ∀ j, j ≠ 129 → s129 j = r34 j := fun i h1 => (s129F i h1).trans ((congrFun eg20 i).trans ((up_n h1).trans (rfl)))
            refine sw_aast (j := 4) (pc' := 197) rfl dX3_init_196 ((s129G 124 (by decide +kernel)).trans hgw4) (Or.inr ⟨rfl, rfl⟩) (by show 100 ≤ _; omega) rfl (by decide +kernel) (by decide +kernel) s129W.1 (by show 100 ≤ _; omega) ?_
            refine sw_nm (fun r44 er44 => ?_)
            have hD5 : C2 h r44 5 := C2.next hD4 (by decide +kernel) (by decide +kernel) s129W s129G ((s129G 124 (by decide +kernel)).trans hgw4) er44
            obtain ⟨gw5, hgw5, -⟩ := id hD5.2.2.2.1
            obtain ⟨gs5, hgs5, egs5⟩ := id hD5.2.1
            refine sw_iinc (pc' := 200) (lv' := [(1, _), (0, _)]) (v := 5) rfl dX3_init_197 rfl rfl (by decide +kernel) rfl ?_
            refine sw_goto (tgt := 172) dX3_init_200 (by decide +kernel) ?_
            refine sw_iload_n (pc' := 173) rfl dX3_init_172 rfl ?_
            refine sw_bipush (pc' := 175) (v := 6) rfl dX3_init_173 (by decide +kernel) ?_
            refine sw_icmp_ge (pc' := 178) (tgt := 203) rfl dX3_init_175 (by decide +kernel) (fun c175 => ?_) (fun c175 => ?_)
            · exact absurd c175 (by decide +kernel)
            · refine sw_aload_n (pc' := 179) rfl dX3_init_178 rfl ?_
              refine sw_getf (ci := 4) (k := 1) (pc' := 182) rfl dX3_init_179 (by decide +kernel) w_151 hD5.1 rfl ?_
              refine sw_iload_n (pc' := 183) rfl dX3_init_182 rfl ?_
              refine sw_new (ci := 3) (pc' := 186) rfl dX3_init_183 (by decide +kernel) w_110 w_112 w_43 (by omega) (Nat.le_trans (Nat.le_of_ble_eq_true rfl) (show 9 ≤ _ by omega)) ?_
              refine sw_nm (fun g21 eg21 => ?_)
              have zg21 := (congrFun eg21 130).trans (up_s (h := r44) (i := 130))
              refine sw_dup (pc' := 187) rfl dX3_init_186 rfl ?_
              refine sw_aload_n (pc' := 188) rfl dX3_init_187 rfl ?_
              refine sw_getf (ci := 4) (k := 0) (pc' := 191) rfl dX3_init_188 (by decide +kernel) w_150 (((congrFun eg21 100).trans (up_n (by omega))).trans hD5.1) rfl ?_
              refine sw_iconst (pc' := 192) (v := 0) rfl dX3_init_191 (by decide +kernel) ?_
              refine sw_aald (j := 0) (pc' := 193) rfl dX3_init_192 (((congrFun eg21 101).trans (up_n (by omega))).trans hgs5) (by decide +kernel) (by show 100 ≤ _; omega) rfl (by omega) (by decide +kernel) (egs5 0 (by decide +kernel)) ?_
              refine sw_I (M' := MX2_init) (d' := d - 1) (bc' := 0) (bs' := 0) (as := [_]) dX3_init_193 w_113 ok_X2_init (m_initWalk zg21 (by show 100 ≤ _; omega)) (by omega) (Nat.le_of_ble_eq_true rfl) (Nat.zero_le _) (Nat.zero_le _) (fun E h' n' _ z => wkp_x z) (wkp_k (fun s130 s130W s130F => ?_))
              have s130G : ∀ j, j ≠ 130 → s130 j = r44 j := fun i h1 => (s130F i h1).trans ((congrFun eg21 i).trans ((up_n h1).trans (rfl)))
              refine sw_aast (j := 5) (pc' := 197) rfl dX3_init_196 ((s130G 124 (by decide +kernel)).trans hgw5) (Or.inr ⟨rfl, rfl⟩) (by show 100 ≤ _; omega) rfl (by decide +kernel) (by decide +kernel) s130W.1 (by show 100 ≤ _; omega) ?_
              refine sw_nm (fun r54 er54 => ?_)
              have hD6 : C2 h r54 6 := C2.next hD5 (by decide +kernel) (by decide +kernel) s130W s130G ((s130G 124 (by decide +kernel)).trans hgw5) er54
              obtain ⟨gw6, hgw6, -⟩ := id hD6.2.2.2.1
              obtain ⟨gs6, hgs6, egs6⟩ := id hD6.2.1
              refine sw_iinc (pc' := 200) (lv' := [(1, _), (0, _)]) (v := 6) rfl dX3_init_197 rfl rfl (by decide +kernel) rfl ?_
              refine sw_goto (tgt := 172) dX3_init_200 (by decide +kernel) ?_
              refine sw_iload_n (pc' := 173) rfl dX3_init_172 rfl ?_
              refine sw_bipush (pc' := 175) (v := 6) rfl dX3_init_173 (by decide +kernel) ?_
              refine sw_icmp_ge (pc' := 178) (tgt := 203) rfl dX3_init_175 (by decide +kernel) (fun c175 => ?_) (fun c175 => ?_)
              · obtain ⟨gw6b, hgw6b, hgw6e⟩ := id hD6.2.2.2.1
                have egw6 : gw6b = gw6 := by rw [hgw6] at hgw6b; cases hgw6b; rfl
                subst egw6
                refine sw_aload_n (pc' := 204) rfl dX3_init_203 rfl ?_
                refine sw_new (ci := 3) (pc' := 207) rfl dX3_init_204 (by decide +kernel) w_110 w_112 w_43 (by omega) (Nat.le_trans (Nat.le_of_ble_eq_true rfl) (show 9 ≤ _ by omega)) ?_
                refine sw_nm (fun g22 eg22 => ?_)
                have zg22 := (congrFun eg22 131).trans (up_s (h := r54) (i := 131))
                refine sw_dup (pc' := 208) rfl dX3_init_207 rfl ?_
                refine sw_aload_n (pc' := 209) rfl dX3_init_208 rfl ?_
                refine sw_getf (ci := 4) (k := 0) (pc' := 212) rfl dX3_init_209 (by decide +kernel) w_150 (((congrFun eg22 100).trans (up_n (by omega))).trans hD6.1) rfl ?_
                refine sw_iconst (pc' := 213) (v := 0) rfl dX3_init_212 (by decide +kernel) ?_
                refine sw_aald (j := 0) (pc' := 214) rfl dX3_init_213 (((congrFun eg22 101).trans (up_n (by omega))).trans hgs6) (by decide +kernel) (by show 100 ≤ _; omega) rfl (by omega) (by decide +kernel) (egs6 0 (by decide +kernel)) ?_
                refine sw_I (M' := MX2_init) (d' := d - 1) (bc' := 0) (bs' := 0) (as := [_]) dX3_init_214 w_113 ok_X2_init (m_initWalk zg22 (by show 100 ≤ _; omega)) (by omega) (Nat.le_of_ble_eq_true rfl) (Nat.zero_le _) (Nat.zero_le _) (fun E h' n' _ z => wkp_x z) (wkp_k (fun s131 s131W s131F => ?_))
                have s131G : ∀ j, j ≠ 131 → j ≠ 100 → s131 j = r54 j := fun i h1 h2 => (s131F i h1).trans ((congrFun eg22 i).trans ((up_n (by omega)).trans (rfl)))
                refine sw_putfF (ci := 4) (k := 2) (pc' := 220) rfl dX3_init_217 (by decide +kernel) (by decide +kernel) w_152 rfl rfl rfl ((s131F 100 (by decide +kernel)).trans (((congrFun eg22 100).trans (up_n (by omega))).trans hD6.1)) (Nat.le_refl _) (Nat.le_of_ble_eq_true rfl) rfl rfl ?_
                refine sw_nm (fun g23 eg23 => ?_)
                have zg23 := (congrFun eg23 100).trans (up_s (h := s131) (i := 100))
                refine sw_aload_n (pc' := 221) rfl dX3_init_220 rfl ?_
                refine sw_new (ci := 3) (pc' := 224) rfl dX3_init_221 (by decide +kernel) w_110 w_112 w_43 (by omega) (Nat.le_trans (Nat.le_of_ble_eq_true rfl) (show 9 ≤ _ by omega)) ?_
                refine sw_nm (fun g24 eg24 => ?_)
                have zg24 := (congrFun eg24 132).trans (up_s (h := g23) (i := 132))
                refine sw_dup (pc' := 225) rfl dX3_init_224 rfl ?_
                refine sw_aload_n (pc' := 226) rfl dX3_init_225 rfl ?_
                refine sw_getf (ci := 4) (k := 0) (pc' := 229) rfl dX3_init_226 (by decide +kernel) w_150 (((congrFun eg24 100).trans (up_n (by omega))).trans zg23) rfl ?_
                refine sw_iconst (pc' := 230) (v := 0) rfl dX3_init_229 (by decide +kernel) ?_
                refine sw_aald (j := 0) (pc' := 231) rfl dX3_init_230 (((congrFun eg24 101).trans (up_n (by omega))).trans (((congrFun eg23 101).trans (up_n (by omega))).trans ((s131G 101 (by decide +kernel) (by decide +kernel)).trans hgs6))) (by decide +kernel) (by show 100 ≤ _; omega) rfl (by omega) (by decide +kernel) (egs6 0 (by decide +kernel)) ?_
                refine sw_I (M' := MX2_init) (d' := d - 1) (bc' := 0) (bs' := 0) (as := [_]) dX3_init_231 w_113 ok_X2_init (m_initWalk zg24 (by show 100 ≤ _; omega)) (by omega) (Nat.le_of_ble_eq_true rfl) (Nat.zero_le _) (Nat.zero_le _) (fun E h' n' _ z => wkp_x z) (wkp_k (fun s132 s132W s132F => ?_))
                have s132G : ∀ j, j ≠ 132 → j ≠ 100 → s132 j = s131 j := fun i h1 h2 => (s132F i h1).trans ((congrFun eg24 i).trans ((up_n (by omega)).trans ((congrFun eg23 i).trans ((up_n (by omega)).trans (rfl)))))
                refine sw_putfF (ci := 4) (k := 3) (pc' := 237) rfl dX3_init_234 (by decide +kernel) (by decide +kernel) w_153 rfl rfl rfl ((s132F 100 (by decide +kernel)).trans (((congrFun eg24 100).trans (up_n (by omega))).trans zg23)) (Nat.le_refl _) (Nat.le_of_ble_eq_true rfl) rfl rfl ?_
                refine sw_nm (fun g25 eg25 => ?_)
                have zg25 := (congrFun eg25 100).trans (up_s (h := s132) (i := 100))
                refine sw_aload_n (pc' := 238) rfl dX3_init_237 rfl ?_
                refine sw_new (ci := 2) (pc' := 241) rfl dX3_init_238 (by decide +kernel) w_71 w_73 w_40 (by omega) (Nat.le_trans (Nat.le_of_ble_eq_true rfl) (show 5 ≤ _ by omega)) ?_
                refine sw_nm (fun g26 eg26 => ?_)
                have zg26 := (congrFun eg26 133).trans (up_s (h := g25) (i := 133))
                refine sw_dup (pc' := 242) rfl dX3_init_241 rfl ?_
                refine sw_gets (pc' := 245) rfl dX3_init_242 (v := .ref 1) (by decide +kernel) w_74 ?_
                refine sw_I (M' := MX1_init) (d' := d - 1) (bc' := 1) (bs' := 12) (as := [_]) dX3_init_245 w_76 ok_X1_init (m_initShelf (b := 133) zg26 (by show 100 ≤ _; omega) (Nat.le_refl _) (Nat.le_refl _)) (by omega) (Nat.le_of_ble_eq_true rfl) (by omega) (by omega) (fun E h' n' _ z => shp_x z) (shp_k (fun s133 s133S s133F => ?_))
                have b133 : ∀ i, i ≠ 100 → i ≠ 133 → g26 i = s132 i := fun i h1 h2 => (congrFun eg26 i).trans ((up_n (by assumption)).trans ((congrFun eg25 i).trans ((up_n (by assumption)).trans (rfl))))
                refine sw_putfF (ci := 4) (k := 4) (pc' := 251) rfl dX3_init_248 (by decide +kernel) (by decide +kernel) w_154 rfl rfl rfl ((s133F 100 (by decide +kernel) (by decide +kernel)).trans (((congrFun eg26 100).trans (up_n (by omega))).trans zg25)) (Nat.le_refl _) (Nat.le_of_ble_eq_true rfl) rfl rfl ?_
                refine sw_nm (fun g27 eg27 => ?_)
                have zg27 := (congrFun eg27 100).trans (up_s (h := s133) (i := 100))
                refine sw_ret (v := none) ⟨dX3_init_251, rfl⟩ ?_
                have G9 : ∀ i, i < 131 → i ≠ 100 → g27 i = r54 i := fun i q1 q2 => ((congrFun eg27 i).trans ((up_n (by omega)).trans (rfl))).trans (((s133F i (by omega) (by omega)).trans (b133 i (by omega) (by omega))).trans (((s132G i (by omega) (by omega))).trans (s131G i (by omega) (by omega))))
                have W1 : g27 131 = s131 131 := ((congrFun eg27 131).trans ((up_n (by omega)).trans (rfl))).trans (((s133F 131 (by decide +kernel) (by decide +kernel)).trans (b133 131 (by decide +kernel) (by decide +kernel))).trans (s132G 131 (by decide +kernel) (by decide +kernel)))
                have W2 : g27 132 = s132 132 := ((congrFun eg27 132).trans ((up_n (by omega)).trans (rfl))).trans ((s133F 132 (by decide +kernel) (by decide +kernel)).trans (b133 132 (by decide +kernel) (by decide +kernel)))
                exact ⟨rfl, rfl, ⟨zg27, ⟨_, (G9 101 (by decide +kernel) (by decide +kernel)).trans hgs6, egs6⟩, ⟨_, (G9 124 (by decide +kernel) (by decide +kernel)).trans hgw6, hgw6e⟩, fun k hk => ⟨(G9 _ (by omega) (by omega)).trans (hD6.2.2.1 k hk).1, (G9 _ (by omega) (by omega)).trans (hD6.2.2.1 k hk).2.1, (hD6.2.2.1 k hk).2.2⟩, fun k hk => ⟨(show (0 : Nat) < 11 by decide +kernel), (G9 _ (by omega) (by omega)).trans (hD6.2.2.2.2.1 k hk).1, (hD6.2.2.2.2.1 k hk).2⟩, ⟨_, _, _, _, _, _, _, _, _, W1.trans s131W.1, s131W.2⟩, ⟨_, _, _, _, _, _, _, _, _, W2.trans s132W.1, s132W.2⟩, ⟨_, _, _, _, ((congrFun eg27 133).trans ((up_n (by omega)).trans (rfl))).trans s133S.1, ((congrFun eg27 134).trans ((up_n (by omega)).trans (rfl))).trans s133S.2.1, s133S.2.2⟩, fun k q1 q2 => ⟨(hK k q1 q2).1, ((G9 k (by omega) (by omega)).trans (hD6.2.2.2.2.2 k (by omega))).trans (hK k q1 q2).2⟩⟩, fun i hi => (G9 i (by omega) (by omega)).trans (hD6.2.2.2.2.2 i hi)⟩
              · exact absurd c175 (by decide +kernel)
