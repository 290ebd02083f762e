/-! rules for arrays and new things -/
theorem clV_new {n : Nat} : clV (n + 1) (.ref n) := fun i hi => by
  cases hi
  exact Nat.lt_succ_self _
section
variable {SR : SRT} {M : MI} {d bc bs pc pc' tgt n : Nat} {lv : List (Nat × Value)} {st : List Value} {h : AH} {Post : ARes → AH → Nat → Prop}
theorem sw_iald {a j len : Nat} {f : Nat → Int32} {x : Int32} (hp : pc + 1 = pc') (hdg : decode M.2.1 pc = .ok (.iaload, 1)) (hh : h a = .inl (0, len, .inl f)) (hx9 : x = nI j) (hj : j < len) (hlen : len < 2 ^ 31)
    (kk : SW SR M d bc bs pc' lv (.int (f j) :: st) h n Post) : SW SR M d bc bs pc lv (.int x :: .ref a :: st) h n Post := by
  subst hp
  intro G p l e R s m args below meth c A ad0 n0 Q hc hr he H locs cells slots ls ad hm hl hx hbc hbs
  have hi : a < n := hl.2.2 _ (List.mem_cons_of_mem _ List.mem_cons_self) a rfl
  have hk9 := kk G p l e R s m args below meth c A ad0 n0 Q hc hr he H locs cells slots ls ad hm (hl.stk (clc (cl2 hl.2.2) clV_int)) hx hbc hbs
  obtain ⟨hx1, hb1, hr1, hml1, hown1, hts1, hlk1, htb1, hlt1, hin1, hK1, hN1, hSR1, hAO1, hC1, hA1⟩ := id hc
  subst hx9
  have hin9 : vp_in (nI j) len := vp_in_nI hj hlen
  have ec : (nI j).toNatClampNeg = j := nI_clamp (by omega)
  by_cases q : nC ≤ a
  · have e0 : (wsH G ad h n)[a - nC]? = some (ad a, .inl (G.2.1 0, len, .inl f)) := by
      have h9 := wsH_get (G := G) (ad := ad) (h := h) q hi
      rw [hh] at h9
      exact h9
    refine va_iald hx1 hb1 hK1 hm.1 _ 0 e0 (tysAt (by decide)) hin9 hdg ?_
    rw [ec]
    exact hk9
  · have q1 : a < nC := by omega
    obtain ⟨c1, c2, -⟩ := hm.2.2.2.2.2 a q1
    have c5 := hC1.2.1 a 0 len f q1 (by rw [← c1]; exact hh) (by decide)
    rw [← c2] at c5
    exact va_ti (v := .int (f j)) hx1 hb1 c5 hm.2.2.1 hin9 (by rw [ec]) hdg hk9
theorem sw_bald {a j len : Nat} {f : Nat → Int32} {x : Int32} (hp : pc + 1 = pc') (hdg : decode M.2.1 pc = .ok (.baload, 1)) (hh : h a = .inl (2, len, .inl f)) (hx9 : x = nI j) (hj : j < len) (hlen : len < 2 ^ 31)
    (kk : SW SR M d bc bs pc' lv (.int (f j) :: st) h n Post) : SW SR M d bc bs pc lv (.int x :: .ref a :: st) h n Post := by
  subst hp
  intro G p l e R s m args below meth c A ad0 n0 Q hc hr he H locs cells slots ls ad hm hl hx hbc hbs
  have hi : a < n := hl.2.2 _ (List.mem_cons_of_mem _ List.mem_cons_self) a rfl
  have hk9 := kk G p l e R s m args below meth c A ad0 n0 Q hc hr he H locs cells slots ls ad hm (hl.stk (clc (cl2 hl.2.2) clV_int)) hx hbc hbs
  obtain ⟨hx1, hb1, hr1, hml1, hown1, hts1, hlk1, htb1, hlt1, hin1, hK1, hN1, hSR1, hAO1, hC1, hA1⟩ := id hc
  subst hx9
  have hin9 : vp_in (nI j) len := vp_in_nI hj hlen
  have ec : (nI j).toNatClampNeg = j := nI_clamp (by omega)
  by_cases q : nC ≤ a
  · have e0 : (wsH G ad h n)[a - nC]? = some (ad a, .inl (G.2.1 2, len, .inl f)) := by
      have h9 := wsH_get (G := G) (ad := ad) (h := h) q hi
      rw [hh] at h9
      exact h9
    refine va_bald hx1 hb1 hK1 hm.1 _ 2 e0 (tysAt (by decide)) hin9 hdg ?_
    rw [ec]
    exact hk9
  · have q1 : a < nC := by omega
    obtain ⟨c1, c2, -⟩ := hm.2.2.2.2.2 a q1
    have c5 := hC1.2.1 a 2 len f q1 (by rw [← c1]; exact hh) (by decide)
    rw [← c2] at c5
    exact va_tb (v := .int (f j)) hx1 hb1 c5 hm.2.2.1 hin9 (by rw [ec]) hdg hk9
theorem sw_zald {a j len : Nat} {f : Nat → Int32} {x : Int32} (hp : pc + 1 = pc') (hdg : decode M.2.1 pc = .ok (.baload, 1)) (hh : h a = .inl (1, len, .inl f)) (hi0 : nC ≤ a) (hx9 : x = nI j) (hj : j < len) (hlen : len < 2 ^ 31)
    (kk : SW SR M d bc bs pc' lv (.int (f j) :: st) h n Post) : SW SR M d bc bs pc lv (.int x :: .ref a :: st) h n Post := by
  subst hp
  intro G p l e R s m args below meth c A ad0 n0 Q hc hr he H locs cells slots ls ad hm hl hx hbc hbs
  have hi : a < n := hl.2.2 _ (List.mem_cons_of_mem _ List.mem_cons_self) a rfl
  have hk9 := kk G p l e R s m args below meth c A ad0 n0 Q hc hr he H locs cells slots ls ad hm (hl.stk (clc (cl2 hl.2.2) clV_int)) hx hbc hbs
  obtain ⟨hx1, hb1, hr1, hml1, hown1, hts1, hlk1, htb1, hlt1, hin1, hK1, hN1, hSR1, hAO1, hC1, hA1⟩ := id hc
  subst hx9
  have ec : (nI j).toNatClampNeg = j := nI_clamp (by omega)
  have e0 : (wsH G ad h n)[a - nC]? = some (ad a, .inl (G.2.1 1, len, .inl f)) := by
    have h9 := wsH_get (G := G) (ad := ad) (h := h) hi0 hi
    rw [hh] at h9
    exact h9
  refine va_zald hx1 hb1 hK1 hm.1 _ 1 e0 (tysAt (by decide)) (vp_in_nI hj hlen) hdg ?_
  rw [ec]
  exact hk9
theorem sw_alen {a t len : Nat} {z : (Nat → Int32) ⊕ (Nat → Int64) ⊕ (Nat → UInt32) ⊕ (Nat → UInt64) ⊕ (Nat → Option Nat)} (hp : pc + 1 = pc') (hdg : decode M.2.1 pc = .ok (.arraylength, 1)) (hh : h a = .inl (t, len, z)) (ht : t < 6) (hz : nC ≤ a ∨ (t < 3 ∧ ∃ f, z = .inl f))
    (kk : SW SR M d bc bs pc' lv (.int (nI len) :: st) h n Post) : SW SR M d bc bs pc lv (.ref a :: st) h n Post := by
  subst hp
  intro G p l e R s m args below meth c A ad0 n0 Q hc hr he H locs cells slots ls ad hm hl hx hbc hbs
  have hi : a < n := hl.2.2 _ List.mem_cons_self a rfl
  have hk9 := kk G p l e R s m args below meth c A ad0 n0 Q hc hr he H locs cells slots ls ad hm (hl.stk (clc (cl1 hl.2.2) clV_int)) hx hbc hbs
  obtain ⟨hx1, hb1, hr1, hml1, hown1, hts1, hlk1, htb1, hlt1, hin1, hK1, hN1, hSR1, hAO1, hC1, hA1⟩ := id hc
  by_cases q : nC ≤ a
  · have h9 := wsH_get (G := G) (ad := ad) (h := h) q hi
    rw [hh] at h9
    obtain f | f | f | f | f := z
    · exact va_alen hx1 hb1 hK1 hm.1 _ t h9 (tysAt ht) rfl hdg hk9
    · exact va_alen hx1 hb1 hK1 hm.1 _ t h9 (tysAt ht) rfl hdg hk9
    · exact va_alen hx1 hb1 hK1 hm.1 _ t h9 (tysAt ht) rfl hdg hk9
    · exact va_alen hx1 hb1 hK1 hm.1 _ t h9 (tysAt ht) rfl hdg hk9
    · exact va_alen hx1 hb1 hK1 hm.1 _ t h9 (tysAt ht) rfl hdg hk9
  · have q1 : a < nC := by omega
    obtain ⟨h3, f, rfl⟩ := hz.resolve_left q
    obtain ⟨c1, c2, -⟩ := hm.2.2.2.2.2 a q1
    have c5 := hC1.2.1 a t len f q1 (by rw [← c1]; exact hh) h3
    rw [← c2] at c5
    exact va_tlen hx1 hb1 c5 hm.2.2.1 rfl hdg hk9
theorem sw_iast {a j len : Nat} {f : Nat → Int32} {x y : Int32} (hp : pc + 1 = pc') (hdg : decode M.2.1 pc = .ok (.iastore, 1)) (hh : h a = .inl (0, len, .inl f)) (hi0 : nC ≤ a) (hx9 : x = nI j) (hj : j < len) (hlen : len < 2 ^ 31)
    (kk : SW SR M d bc bs pc' lv st (up h a (.inl (0, len, .inl (up f j y)))) n Post) : SW SR M d bc bs pc lv (.int y :: .int x :: .ref a :: st) h n Post := by
  subst hp
  intro G p l e R s m args below meth c A ad0 n0 Q hc hr he H locs cells slots ls ad hm hl hx hbc hbs
  have hi : a < n := hl.2.2 _ (List.mem_cons_of_mem _ (List.mem_cons_of_mem _ List.mem_cons_self)) a rfl
  obtain ⟨hx1, hb1, hr1, hml1, hown1, hts1, hlk1, htb1, hlt1, hin1, hK1, hN1, hSR1, hAO1, hC1, hA1⟩ := id hc
  subst hx9
  have ec : (nI j).toNatClampNeg = j := nI_clamp (by omega)
  have e0 : (wsH G ad h n)[a - nC]? = some (ad a, .inl (G.2.1 0, len, .inl f)) := by
    have h9 := wsH_get (G := G) (ad := ad) (h := h) hi0 hi
    rw [hh] at h9
    exact h9
  refine va_iast hx1 hb1 hK1 hm.1 hm.2.1 hm.2.2.1 _ 0 e0 (tysAt (by decide)) (vp_in_nI hj hlen) hdg (fun H1 locs1 hP hD hS => ?_)
  rw [ec] at hP hD
  exact kk G p l e R s m args below meth c A ad0 n0 Q hc hr he H1 locs1 cells slots ls ad (hm.put (e := .inl (0, len, .inl (up f j y))) hi0 hi trivial hP hD hS) (hl.stk (cl1 (cl2 hl.2.2))) hx hbc hbs
theorem sw_bast {a j len : Nat} {f : Nat → Int32} {x y : Int32} (hp : pc + 1 = pc') (hdg : decode M.2.1 pc = .ok (.bastore, 1)) (hh : h a = .inl (2, len, .inl f)) (hi0 : nC ≤ a) (hx9 : x = nI j) (hj : j < len) (hlen : len < 2 ^ 31)
    (kk : SW SR M d bc bs pc' lv st (up h a (.inl (2, len, .inl (up f j (vp_nar .byte y))))) n Post) : SW SR M d bc bs pc lv (.int y :: .int x :: .ref a :: st) h n Post := by
  subst hp
  intro G p l e R s m args below meth c A ad0 n0 Q hc hr he H locs cells slots ls ad hm hl hx hbc hbs
  have hi : a < n := hl.2.2 _ (List.mem_cons_of_mem _ (List.mem_cons_of_mem _ List.mem_cons_self)) a rfl
  obtain ⟨hx1, hb1, hr1, hml1, hown1, hts1, hlk1, htb1, hlt1, hin1, hK1, hN1, hSR1, hAO1, hC1, hA1⟩ := id hc
  subst hx9
  have ec : (nI j).toNatClampNeg = j := nI_clamp (by omega)
  have e0 : (wsH G ad h n)[a - nC]? = some (ad a, .inl (G.2.1 2, len, .inl f)) := by
    have h9 := wsH_get (G := G) (ad := ad) (h := h) hi0 hi
    rw [hh] at h9
    exact h9
  refine va_bast hx1 hb1 hK1 hm.1 hm.2.1 hm.2.2.1 _ 2 e0 (tysAt (by decide)) (vp_in_nI hj hlen) hdg (fun H1 locs1 hP hD hS => ?_)
  rw [ec] at hP hD
  exact kk G p l e R s m args below meth c A ad0 n0 Q hc hr he H1 locs1 cells slots ls ad (hm.put (e := .inl (2, len, .inl (up f j (vp_nar .byte y)))) hi0 hi trivial hP hD hS) (hl.stk (cl1 (cl2 hl.2.2))) hx hbc hbs
theorem sw_zast {a j len : Nat} {f : Nat → Int32} {x y : Int32} (hp : pc + 1 = pc') (hdg : decode M.2.1 pc = .ok (.bastore, 1)) (hh : h a = .inl (1, len, .inl f)) (hi0 : nC ≤ a) (hx9 : x = nI j) (hj : j < len) (hlen : len < 2 ^ 31)
    (kk : SW SR M d bc bs pc' lv st (up h a (.inl (1, len, .inl (up f j (vp_nar .boolean y))))) n Post) : SW SR M d bc bs pc lv (.int y :: .int x :: .ref a :: st) h n Post := by
  subst hp
  intro G p l e R s m args below meth c A ad0 n0 Q hc hr he H locs cells slots ls ad hm hl hx hbc hbs
  have hi : a < n := hl.2.2 _ (List.mem_cons_of_mem _ (List.mem_cons_of_mem _ List.mem_cons_self)) a rfl
  obtain ⟨hx1, hb1, hr1, hml1, hown1, hts1, hlk1, htb1, hlt1, hin1, hK1, hN1, hSR1, hAO1, hC1, hA1⟩ := id hc
  subst hx9
  have ec : (nI j).toNatClampNeg = j := nI_clamp (by omega)
  have e0 : (wsH G ad h n)[a - nC]? = some (ad a, .inl (G.2.1 1, len, .inl f)) := by
    have h9 := wsH_get (G := G) (ad := ad) (h := h) hi0 hi
    rw [hh] at h9
    exact h9
  refine va_zast hx1 hb1 hK1 hm.1 hm.2.1 hm.2.2.1 _ 1 e0 (tysAt (by decide)) (vp_in_nI hj hlen) hdg (fun H1 locs1 hP hD hS => ?_)
  rw [ec] at hP hD
  exact kk G p l e R s m args below meth c A ad0 n0 Q hc hr he H1 locs1 cells slots ls ad (hm.put (e := .inl (1, len, .inl (up f j (vp_nar .boolean y)))) hi0 hi trivial hP hD hS) (hl.stk (cl1 (cl2 hl.2.2))) hx hbc hbs
/-- a place of an array of references: not null -/
theorem sw_aald {a j len t b : Nat} {g : Nat → Option Nat} {x : Int32} (hp : pc + 1 = pc') (hdg : decode M.2.1 pc = .ok (.aaload, 1)) (hh : h a = .inl (t, len, .inr (.inr (.inr (.inr g))))) (ht : 3 ≤ t ∧ t < 6) (hi0 : nC ≤ a) (hx9 : x = nI j) (hj : j < len) (hlen : len < 2 ^ 31) (hg : g j = some b)
    (kk : SW SR M d bc bs pc' lv (.ref b :: st) h n Post) : SW SR M d bc bs pc lv (.int x :: .ref a :: st) h n Post := by
  subst hp
  intro G p l e R s m args below meth c A ad0 n0 Q hc hr he H locs cells slots ls ad hm hl hx hbc hbs
  have hi : a < n := hl.2.2 _ (List.mem_cons_of_mem _ List.mem_cons_self) a rfl
  have hcl : clV n (.ref b) := by
    have h1 := hm.cl hi
    rw [hh] at h1
    intro i hi9
    cases hi9
    exact h1 j b hg
  have hk9 := kk G p l e R s m args below meth c A ad0 n0 Q hc hr he H locs cells slots ls ad hm (hl.stk (clc (cl2 hl.2.2) hcl)) hx hbc hbs
  obtain ⟨hx1, hb1, hr1, hml1, hown1, hts1, hlk1, htb1, hlt1, hin1, hK1, hN1, hSR1, hAO1, hC1, hA1⟩ := id hc
  subst hx9
  have ec : (nI j).toNatClampNeg = j := nI_clamp (by omega)
  have hin9 : vp_in (nI j) len := vp_in_nI hj hlen
  have e0 : (wsH G ad h n)[a - nC]? = some (ad a, .inl (G.2.1 t, len, .inr (.inr (.inr (.inr (fun j => (g j).map ad)))))) := by
    have h9 := wsH_get (G := G) (ad := ad) (h := h) hi0 hi
    rw [hh] at h9
    exact h9
  have hty : (aTy t).isReference = true := by
    obtain ⟨h3, h4⟩ := ht
    match t, h3, h4 with
    | 3, _, _ => rfl
    | 4, _, _ => rfl
    | 5, _, _ => rfl
  have hlt9 : (nI j).toNatClampNeg < len := by rw [ec]; exact hj
  exact W.aald (v := .ref (ad b)) (ty := aTy t) hx1 hb1 (hm.1 _ _ e0) ((hK1.2 t _ (tysAt ht.2)).1 len (fun j => va_rf ((g j).map ad))) hty (fun q => by cases q) (by show ¬ (nI j < 0 ∨ (arrV _ _ _).slots.size ≤ _); rw [arrV_size]; exact hin9) (by show (arrV _ _ _).slots[_]? = _; rw [arrV_read _ _ hlt9, ec]; show some (va_rf ((g j).map ad)) = _; rw [hg]; rfl) rfl rfl hdg hk9
theorem sw_aast {a j len t b ci : Nat} {g : Nat → Option Nat} {fs : List Value} {x : Int32} (hp : pc + 1 = pc') (hdg : decode M.2.1 pc = .ok (.aastore, 1)) (hh : h a = .inl (t, len, .inr (.inr (.inr (.inr g))))) (ht : t = 3 ∧ ci = 2 ∨ t = 4 ∧ ci = 3) (hi0 : nC ≤ a) (hx9 : x = nI j) (hj : j < len) (hlen : len < 2 ^ 31) (hb : h b = .inr (ci, fs)) (hb0 : nC ≤ b)
    (kk : SW SR M d bc bs pc' lv st (up h a (.inl (t, len, .inr (.inr (.inr (.inr (up g j (some b)))))))) n Post) : SW SR M d bc bs pc lv (.ref b :: .int x :: .ref a :: st) h n Post := by
  subst hp
  intro G p l e R s m args below meth c A ad0 n0 Q hc hr he H locs cells slots ls ad hm hl hx hbc hbs
  have hi : a < n := hl.2.2 _ (List.mem_cons_of_mem _ (List.mem_cons_of_mem _ List.mem_cons_self)) a rfl
  have hbn : b < n := hl.2.2 _ List.mem_cons_self b rfl
  obtain ⟨hx1, hb1, hr1, hml1, hown1, hts1, hlk1, htb1, hlt1, hin1, hK1, hN1, hSR1, hAO1, hC1, hA1⟩ := id hc
  subst hx9
  have ec : (nI j).toNatClampNeg = j := nI_clamp (by omega)
  have e0 : (wsH G ad h n)[a - nC]? = some (ad a, .inl (G.2.1 t, len, .inr (.inr (.inr (.inr (fun j => (g j).map ad)))))) := by
    have h9 := wsH_get (G := G) (ad := ad) (h := h) hi0 hi
    rw [hh] at h9
    exact h9
  have e1 : (wsH G ad h n)[b - nC]? = some (ad b, .inr (ci, fs.map (em ad))) := by
    have h9 := wsH_get (G := G) (ad := ad) (h := h) hb0 hbn
    rw [hb] at h9
    exact h9
  have e2 : va_up (fun j => (g j).map ad) j (some (ad b)) = fun i => (up g j (some b) i).map ad := by
    funext i
    by_cases q : i = j
    · subst q; rw [up_s]; exact if_pos rfl
    · rw [up_n q]; exact if_neg q
  have hcl : clE n (.inl (t, len, .inr (.inr (.inr (.inr (up g j (some b))))))) := by
    have h1 := hm.cl hi
    rw [hh] at h1
    intro i z hz
    by_cases q : i = j
    · subst q; rw [up_s] at hz; cases hz; exact hbn
    · rw [up_n q] at hz; exact h1 i z hz
  rcases ht with ⟨rfl, rfl⟩ | ⟨rfl, rfl⟩
  · refine va_astq (r := (RX1, TX1, 5)) hx1 hb1 hK1 hm.1 hm.2.1 hm.2.2.1 _ 3 _ 2 e0 (tysAt (by decide)) e1 rfl (vp_in_nI hj hlen) hdg (fun H1 locs1 hP hD hS => ?_)
    rw [ec, e2] at hP hD
    exact kk G p l e R s m args below meth c A ad0 n0 Q hc hr he H1 locs1 cells slots ls ad (hm.put (e := .inl (3, len, .inr (.inr (.inr (.inr (up g j (some b))))))) hi0 hi hcl hP hD hS) (hl.stk (cl1 (cl2 hl.2.2))) hx hbc hbs
  · refine va_astq (r := (RX2, TX2, 9)) hx1 hb1 hK1 hm.1 hm.2.1 hm.2.2.1 _ 4 _ 3 e0 (tysAt (by decide)) e1 rfl (vp_in_nI hj hlen) hdg (fun H1 locs1 hP hD hS => ?_)
    rw [ec, e2] at hP hD
    exact kk G p l e R s m args below meth c A ad0 n0 Q hc hr he H1 locs1 cells slots ls ad (hm.put (e := .inl (4, len, .inr (.inr (.inr (.inr (up g j (some b))))))) hi0 hi hcl hP hD hS) (hl.stk (cl1 (cl2 hl.2.2))) hx hbc hbs
/-- the default values of a class's fields -/
def dfs (ci : Nat) : List Value := (List.range (FN ci)).map (fun k => defaultValue (FTy ci k))
theorem dfs_ok {ci : Nat} : ∀ k, k < FN ci → defaultValue (FTy ci k) = vp_V (dfs ci) k := by
  intro k hk
  simp [vp_V, dfs, hk]
theorem dfs_cl {n ci : Nat} : clE n (.inr (ci, dfs ci)) := by
  intro v hv
  obtain ⟨k, -, rfl⟩ := List.mem_map.mp hv
  intro i hi
  cases hty : FTy ci k <;> rw [hty] at hi <;> cases hi
theorem dfs_em {ad : Nat → Nat} {ci : Nat} : (dfs ci).map (em ad) = dfs ci := by
  unfold dfs
  rw [List.map_map]
  apply List.map_congr_left
  intro k _
  show em ad (defaultValue (FTy ci k)) = _
  cases FTy ci k <;> rfl
theorem sw_new {ci idx : Nat} (hp : pc + 3 = pc') (hdg : decode M.2.1 pc = .ok (.new idx, 3)) (hci : ci < 7) (hw1 : Cond.classLink M.1.cls idx (CN ci) ∈ GT) (hw2 : Cond.instantiable (CN ci) (FN ci) ∈ GT) (hw3 : Cond.initialized (CN ci) ∈ GT) (h1 : 1 ≤ bc) (h2 : FN ci ≤ bs)
    (kk : SW SR M d (bc - 1) (bs - FN ci) pc' lv (.ref n :: st) (up h n (.inr (ci, dfs ci))) (n + 1) Post) : SW SR M d bc bs pc lv st h n Post := by
  subst hp
  intro G p l e R s m args below meth c A ad0 n0 Q hc hr he H locs cells slots ls ad hm hl hx hbc hbs
  obtain ⟨hx1, hb1, hr1, hml1, hown1, hts1, hlk1, htb1, hlt1, hin1, hK1, hN1, hSR1, hAO1, hC1, hA1⟩ := id hc
  refine va_new hx1 hb1 hts1 (cls_ws hci) (FTy ci) (cls_ty hci) hown1 (hts1 _ hw1) (hts1 _ hw2) (hts1 _ hw3) hK1 hm.1 hm.2.1 hm.2.2.1 hA1 (vwCl_at hci) dfs_ok (by omega) (by omega) hdg (fun q H1 hP hD hS => ?_)
  have e9 : (Sum.inr (ci, dfs ci) : va_E) = emE G.2.1 ad (.inr (ci, dfs ci)) := by
    show _ = Sum.inr (ci, (dfs ci).map (em ad))
    rw [dfs_em]
  rw [e9] at hP hD
  have hl9 : LM (up ad n q) M.2.2.1 (n + 1) lv (.ref n :: st) ls := (hl.new (q := q)).stk (clc (hl.new (q := q)).2.2 clV_new)
  have k9 := kk G p l e R s m args below meth c A ad0 n0 Q hc hr he H1 locs (cells + 1) (slots + FN ci) ls (up ad n q) (hm.new dfs_cl hP hD hS) hl9 hx.new (by omega) (by omega)
  rw [List.map_cons, em_new hl.2.2] at k9
  have e1 : em (up ad n q) (.ref n) = .ref q := congrArg Value.ref up_s
  rw [e1] at k9
  exact k9
theorem sw_newa {t len : Nat} {aty : ArrayType} {x : Int32} (hp : pc + 2 = pc') (hdg : decode M.2.1 pc = .ok (.newarray aty, 2)) (ht : aty = .int ∧ t = 0 ∨ aty = .boolean ∧ t = 1 ∨ aty = .byte ∧ t = 2) (hw : Cond.arrayClass (newarray.typeOf aty) ∈ GT) (hx9 : x = nI len) (hlen : len ≤ 65536) (h1 : 1 ≤ bc) (h2 : len ≤ bs)
    (kk : SW SR M d (bc - 1) (bs - len) pc' lv (.ref n :: st) (up h n (.inl (t, len, .inl (fun _ => 0)))) (n + 1) Post) : SW SR M d bc bs pc lv (.int x :: st) h n Post := by
  subst hp
  intro G p l e R s m args below meth c A ad0 n0 Q hc hr he H locs cells slots ls ad hm hl hx hbc hbs
  obtain ⟨hx1, hb1, hr1, hml1, hown1, hts1, hlk1, htb1, hlt1, hin1, hK1, hN1, hSR1, hAO1, hC1, hA1⟩ := id hc
  subst hx9
  have ec : (nI len).toNatClampNeg = len := nI_clamp (by omega)
  have hcells9 : cells + 1 ≤ R.cells := by omega
  have hslots9 : slots + len ≤ R.slots := by omega
  have go : ∀ (q : Nat) (cA : ClassId) (H1 : Heap), t < 6 → va_K G.1 vwCl (tysOf G.2.1 ++ [(cA, aTy t)]) s → (∀ C, aTy t ≠ .object C) → va_P G.1 vwCl (wsH G ad h n ++ [(q, .inl (cA, len, .inl (fun _ => 0)))]) H1 → va_D A (wsH G ad h n ++ [(q, .inl (cA, len, .inl (fun _ => 0)))]) → va_S A s.heap H1 locs →
      W p l e R s m args below meth c H1 locs (cells + 1) (slots + len) Q (F0 m (pc + 2) ls (.ref q :: st.map (em ad))) := by
    intro q cA H1 ht6 hK9 hno hP hD hS
    have e1 : cA = G.2.1 t := by
      have g1 := (hK9.2 6 (cA, aTy t) rfl).2
      have g2 := (hK1.2 t _ (tysAt ht6)).2
      cases hty : aTy t <;> rw [hty] at g1 g2 <;> first | exact Option.some.inj (g1.symm.trans g2) | exact absurd hty (hno _)
    subst e1
    have hl8 : LM ad M.2.2.1 n lv st ls := hl.stk (cl1 hl.2.2)
    have hl9 : LM (up ad n q) M.2.2.1 (n + 1) lv (.ref n :: st) ls := (hl8.new (q := q)).stk (clc (hl8.new (q := q)).2.2 clV_new)
    have k9 := kk G p l e R s m args below meth c A ad0 n0 Q hc hr he H1 locs (cells + 1) (slots + len) ls (up ad n q) (hm.new (e := .inl (t, len, .inl (fun _ => 0))) trivial hP hD hS) hl9 hx.new (by omega) (by omega)
    rw [List.map_cons, em_new hl8.2.2] at k9
    have e1 : em (up ad n q) (.ref n) = .ref q := congrArg Value.ref up_s
    rw [e1] at k9
    exact k9
  rcases ht with ⟨rfl, rfl⟩ | ⟨rfl, rfl⟩ | ⟨rfl, rfl⟩
  · exact va_newa (a0 := (len, .inl (fun _ => 0))) (ty := .int) hx1 hb1 (hts1 _ hw) rfl hK1 hm.1 hm.2.1 hm.2.2.1 hA1 (fun _ => rfl) (nI_pos (by omega)) ec (by show len * 4 ≤ _; omega) hcells9 hslots9 hdg (fun q cA H1 a1 a2 a3 a4 => go q cA H1 (by decide) a1 (fun _ z => by cases z) a2 a3 a4)
  · exact va_newa (a0 := (len, .inl (fun _ => 0))) (ty := .boolean) hx1 hb1 (hts1 _ hw) rfl hK1 hm.1 hm.2.1 hm.2.2.1 hA1 (fun _ => rfl) (nI_pos (by omega)) ec (by show len * 1 ≤ _; omega) hcells9 hslots9 hdg (fun q cA H1 a1 a2 a3 a4 => go q cA H1 (by decide) a1 (fun _ z => by cases z) a2 a3 a4)
  · exact va_newa (a0 := (len, .inl (fun _ => 0))) (ty := .byte) hx1 hb1 (hts1 _ hw) rfl hK1 hm.1 hm.2.1 hm.2.2.1 hA1 (fun _ => rfl) (nI_pos (by omega)) ec (by show len * 1 ≤ _; omega) hcells9 hslots9 hdg (fun q cA H1 a1 a2 a3 a4 => go q cA H1 (by decide) a1 (fun _ z => by cases z) a2 a3 a4)
theorem sw_newq {t len idx : Nat} {x : Int32} (hp : pc + 3 = pc') (hdg : decode M.2.1 pc = .ok (.anewarray idx, 3)) (ht : t = 3 ∨ t = 4) (hw : ∀ C, aTy t = .object C → Cond.classLink M.1.cls idx C ∈ GT) (hx9 : x = nI len) (hlen : len ≤ 65536) (h1 : 1 ≤ bc) (h2 : len ≤ bs)
    (kk : SW SR M d (bc - 1) (bs - len) pc' lv (.ref n :: st) (up h n (.inl (t, len, .inr (.inr (.inr (.inr (fun _ => none))))))) (n + 1) Post) : SW SR M d bc bs pc lv (.int x :: st) h n Post := by
  subst hp
  intro G p l e R s m args below meth c A ad0 n0 Q hc hr he H locs cells slots ls ad hm hl hx hbc hbs
  obtain ⟨hx1, hb1, hr1, hml1, hown1, hts1, hlk1, htb1, hlt1, hin1, hK1, hN1, hSR1, hAO1, hC1, hA1⟩ := id hc
  subst hx9
  have ec : (nI len).toNatClampNeg = len := nI_clamp (by omega)
  obtain ⟨C, hC9, hAO⟩ : ∃ C, aTy t = .object C ∧ va_AO C s := by
    rcases ht with rfl | rfl
    · exact ⟨_, rfl, hAO1.1⟩
    · exact ⟨_, rfl, hAO1.2.1⟩
  have ht6 : t < 6 := by omega
  refine va_newq hx1 hb1 hown1 (hts1 _ (hw C hC9)) hAO hK1 hm.1 hm.2.1 hm.2.2.1 hA1 (N' := len) (nI_pos (by omega)) ec (by omega) (by omega) (by omega) hdg (fun q cA H1 hK9 hP hD hS => ?_)
  have e1 : cA = G.2.1 t := by
    obtain ⟨kA, comp, -, -, -, g1⟩ := (hK9.2 6 (cA, .object C) rfl).2
    have g2 := (hK1.2 t _ (tysAt ht6)).2
    rw [hC9] at g2
    obtain ⟨kA2, comp2, -, -, -, g2⟩ := g2
    exact Option.some.inj (g1.symm.trans g2)
  subst e1
  have hl8 : LM ad M.2.2.1 n lv st ls := hl.stk (cl1 hl.2.2)
  have hl9 : LM (up ad n q) M.2.2.1 (n + 1) lv (.ref n :: st) ls := (hl8.new (q := q)).stk (clc (hl8.new (q := q)).2.2 clV_new)
  have k9 := kk G p l e R s m args below meth c A ad0 n0 Q hc hr he H1 locs (cells + 1) (slots + len) ls (up ad n q) (hm.new (e := .inl (t, len, .inr (.inr (.inr (.inr (fun _ => none)))))) (fun _ _ z => by cases z) hP hD hS) hl9 hx.new (by omega) (by omega)
  rw [List.map_cons, em_new hl8.2.2] at k9
  have e1 : em (up ad n q) (.ref n) = .ref q := congrArg Value.ref up_s
  rw [e1] at k9
  exact k9
theorem sw_objInit {idx i : Nat} (hp : pc + 3 = pc') (hdg : decode M.2.1 pc = .ok (.invokespecial idx, 3)) (hw1 : Cond.methodLink M.1.cls idx Lib.objectInit ∈ GT) (hw2 : Cond.instanceMethod Lib.objectInit ∈ GT) (hw3 : Cond.code Lib.objectInit ⟨#[0xb1]⟩ 1 none ∈ GT) (hst : (st.map fun v => v.category).sum ≤ 8)
    (kk : SW SR M d bc bs pc' lv st h n Post) : SW SR M d bc bs pc lv (.ref i :: st) h n Post := by
  subst hp
  intro G p l e R s m args below meth c A ad0 n0 Q hc hr he H locs cells slots ls ad hm hl hx hbc hbs
  have hk9 := kk G p l e R s m args below meth c A ad0 n0 Q hc hr he H locs cells slots ls ad hm (hl.stk (cl1 hl.2.2)) hx hbc hbs
  obtain ⟨hx1, hb1, hr1, hml1, hown1, hts1, hlk1, htb1, hlt1, hin1, hK1, hN1, hSR1, hAO1, hC1, hA1⟩ := id hc
  have e9 : ((st.map (em ad)).map fun v => v.category) = st.map fun v => v.category := by
    rw [List.map_map]
    exact List.map_congr_left (fun v _ => em_cat)
  refine W.objInit hx1 hb1 hown1 (hts1 _ hw1) (hts1 _ hw2) (hts1 _ hw3) rfl (by rw [hml1]; exact hl.1.1) rfl hdg (by have := hr.1; omega) ?_ hk9
  show 2 * 0 + ((st.map (em ad)).map fun v => v.category).sum + 12 ≤ R.locals
  rw [e9]
  have := hr.2
  omega
/-- two of the enum's constants -/
theorem sw_acmp {i j : Nat} {off : Int} (hp : pc + 3 = pc') (hdg : decode M.2.1 pc = .ok (.if_acmp .ne off, 3)) (ht : (pc : Int) + off = (tgt : Int)) (h1 : 1 ≤ i ∧ i ≤ 5) (h2 : 1 ≤ j ∧ j ≤ 5)
    (kt : ¬ i = j → SW SR M d bc bs tgt lv st h n Post) (kf : i = j → SW SR M d bc bs pc' lv st h n Post) : SW SR M d bc bs pc lv (.ref j :: .ref i :: st) h n Post := by
  subst hp
  intro G p l e R s m args below meth c A ad0 n0 Q hc hr he H locs cells slots ls ad hm hl hx hbc hbs
  obtain ⟨hx1, hb1, hr1, hml1, hown1, hts1, hlk1, htb1, hlt1, hin1, hK1, hN1, hSR1, hAO1, hC1, hA1⟩ := id hc
  have e1 := (hm.2.2.2.2.2 i (by have := h1.2; unfold nC; omega)).2.1
  have e2 := (hm.2.2.2.2.2 j (by have := h2.2; unfold nC; omega)).2.1
  refine lv_acmp_ne (rx := some (ad i)) (ry := some (ad j)) hx1 hb1 hdg ht (fun z => ?_) (fun z => ?_)
  · exact kt (fun q => z (by rw [q])) G p l e R s m args below meth c A ad0 n0 Q hc hr he H locs cells slots ls ad hm (hl.stk (cl2 hl.2.2)) hx hbc hbs
  · have z9 : ad i = ad j := Option.some.inj z
    rw [e1, e2] at z9
    exact kf (hC1.2.2.2.2.2 i j h1.1 h1.2 h2.1 h2.2 z9) G p l e R s m args below meth c A ad0 n0 Q hc hr he H locs cells slots ls ad hm (hl.stk (cl2 hl.2.2)) hx hbc hbs
end
