/-! rules for fields, arrays, statics, new things -/
theorem tysAt {cA : Nat → ClassId} {t : Nat} (h : t < 6) : (tysOf cA)[t]? = some (cA t, aTy t) := by
  match t, h with
  | 0, _ => rfl
  | 1, _ => rfl
  | 2, _ => rfl
  | 3, _ => rfl
  | 4, _ => rfl
  | 5, _ => rfl
def FTy (ci : Nat) : Nat → FieldType := match ci with
  | 0 => tyJ0
  | 1 => tyJ4
  | 2 => tyX1
  | 3 => tyX2
  | 4 => tyX3
  | 5 => tyX4
  | _ => tyX5
theorem cls_ws {ci : Nat} (h : ci < 7) : ∀ w ∈ u_ws (CN ci) (FT ci) (FN ci), w ∈ GT := by
  match ci, h with
  | 0, _ => exact ws_in0
  | 1, _ => exact ws_in1
  | 2, _ => exact ws_in2
  | 3, _ => exact ws_in3
  | 4, _ => exact ws_in4
  | 5, _ => exact ws_in5
  | 6, _ => exact ws_in6
theorem cls_ty {ci : Nat} (h : ci < 7) : ∀ k, k < FN ci → parseFieldDescriptor (FT ci k).2.2.1 = some (FTy ci k) := by
  match ci, h with
  | 0, _ => exact tyJ0_ok
  | 1, _ => exact tyJ4_ok
  | 2, _ => exact tyX1_ok
  | 3, _ => exact tyX2_ok
  | 4, _ => exact tyX3_ok
  | 5, _ => exact tyX4_ok
  | 6, _ => exact tyX5_ok
theorem cls_nm {ci : Nat} (h : ci < 7) : ∀ a, a < FN ci → ∀ b, b < FN ci → a ≠ b → (FT ci a).2.1 ≠ (FT ci b).2.1 := by
  match ci, h with
  | 0, _ => exact nmJ0
  | 1, _ => exact nmJ4
  | 2, _ => exact nmX1
  | 3, _ => exact nmX2
  | 4, _ => exact nmX3
  | 5, _ => exact nmX4
  | 6, _ => exact nmX5
theorem HM.put {G : GD} {A : Nat → Prop} {H0 : Heap} {h : AH} {n : Nat} {H : Heap} {locs : List Loc} {ad : Nat → Nat} (hm : HM G A H0 h n H locs ad) {i : Nat} {e : va_E} {H1 : Heap} {locs1 : List Loc} (h1 : nC ≤ i) (h2 : i < n) (hcl : clE n e)
    (hP : va_P G.1 vwCl ((wsH G ad h n).set (i - nC) (ad i, emE G.2.1 ad e)) H1) (hD : va_D A ((wsH G ad h n).set (i - nC) (ad i, emE G.2.1 ad e))) (hS : va_S A H0 H1 locs1) : HM G A H0 (up h i e) n H1 locs1 ad := by
  rw [wsH_set h1 h2] at hP hD
  refine ⟨hP, hD, hS, hm.2.2.2.1, fun j a b => ?_, fun j a => ?_⟩
  · by_cases q : j = i
    · rw [q, up_s]; exact hcl
    · rw [up_n q]; exact hm.2.2.2.2.1 j a b
  · rw [up_n (by omega)]
    exact hm.2.2.2.2.2 j a
theorem HM.new {G : GD} {A : Nat → Prop} {H0 : Heap} {h : AH} {n : Nat} {H : Heap} {locs : List Loc} {ad : Nat → Nat} (hm : HM G A H0 h n H locs ad) {q : Nat} {e : va_E} {H1 : Heap} {locs1 : List Loc} (hcl : clE n e)
    (hP : va_P G.1 vwCl (wsH G ad h n ++ [(q, emE G.2.1 ad e)]) H1) (hD : va_D A (wsH G ad h n ++ [(q, emE G.2.1 ad e)])) (hS : va_S A H0 H1 locs1) : HM G A H0 (up h n e) (n + 1) H1 locs1 (up ad n q) := by
  rw [wsH_push hm.lt hm.2.2.2.2.1 hcl] at hP hD
  have h0 := hm.lt
  refine ⟨hP, hD, hS, by omega, fun j a b => ?_, fun j a => ?_⟩
  · by_cases z : j = n
    · rw [z, up_s]; exact clE_mono hcl (by omega)
    · rw [up_n z]; exact clE_mono (hm.2.2.2.2.1 j a (by omega)) (by omega)
  · rw [up_n (by omega), up_n (by omega)]
    exact hm.2.2.2.2.2 j a
theorem Ext.new {ad0 ad : Nat → Nat} {n0 n q : Nat} (h : Ext ad0 ad n0 n) : Ext ad0 (up ad n q) n0 (n + 1) := ⟨by have := h.1; omega, fun i hi => by rw [up_n (by have := h.1; omega)]; exact h.2 i hi⟩
theorem LM.new {ad : Nat → Nat} {nL n q : Nat} {lv : List (Nat × Value)} {st : List Value} {ls : Array Slot} (hl : LM ad nL n lv st ls) : LM (up ad n q) nL (n + 1) lv st ls := by
  have e0 : ∀ i, i < n → up ad n q i = ad i := fun i hi => up_n (by omega)
  refine ⟨?_, fun z hz => clV_mono (hl.2.1 z hz) (by omega), fun z hz => clV_mono (hl.2.2 z hz) (by omega)⟩
  have e1 : lv.map (fun z => (z.1, em (up ad n q) z.2)) = lv.map (fun z => (z.1, em ad z.2)) := List.map_congr_left (fun z hz => by rw [em_eq (hl.2.1 z hz) e0])
  rw [e1]
  exact hl.1
theorem em_new {ad : Nat → Nat} {n q : Nat} {st : List Value} (h : ∀ v ∈ st, clV n v) : st.map (em (up ad n q)) = st.map (em ad) := List.map_congr_left (fun z hz => em_eq (h z hz) (fun i hi => up_n (by omega)))
theorem HM.cl {G : GD} {A : Nat → Prop} {H0 : Heap} {h : AH} {n : Nat} {H : Heap} {locs : List Loc} {ad : Nat → Nat} (hm : HM G A H0 h n H locs ad) {i : Nat} (hi : i < n) : clE n (h i) := by
  by_cases q : nC ≤ i
  · exact hm.2.2.2.2.1 i q hi
  · exact clE_mono (hm.2.2.2.2.2 i (by omega)).2.2 hm.lt
section
variable {SR : SRT} {M : MI} {d bc bs pc pc' tgt n : Nat} {lv : List (Nat × Value)} {st : List Value} {h : AH} {Post : ARes → AH → Nat → Prop}
theorem sw_getf {ci k idx i : Nat} {fs : List Value} {v : Value} (hp : pc + 3 = pc') (hdg : decode M.2.1 pc = .ok (.getfield idx, 3)) (hk : k < FN ci) (hw : Cond.fieldLink M.1.cls idx (FT ci k).1 (FT ci k).2.1 (FT ci k).2.2.1 ∈ GT) (hh : h i = .inr (ci, fs)) (hv : fs[k]? = some v)
    (kk : SW SR M d bc bs pc' lv (v :: st) h n Post) : SW SR M d bc bs pc lv (.ref i :: st) h n Post := by
  subst hp
  intro G p l e R s m args below meth c A ad0 n0 Q hc hr he H locs cells slots ls ad hm hl hx hbc hbs
  have hi : i < n := hl.2.2 _ List.mem_cons_self i rfl
  have hcl : clV n v := by
    have h1 := hm.cl hi
    rw [hh] at h1
    exact h1 v (List.mem_of_getElem? hv)
  have hk9 := kk G p l e R s m args below meth c A ad0 n0 Q hc hr he H locs cells slots ls ad hm (hl.stk (clc (cl1 hl.2.2) hcl)) hx hbc hbs
  obtain ⟨hx1, hb1, hr1, hml1, hown1, hts1, hlk1, htb1, hlt1, hin1, hK1, hN1, hSR1, hAO1, hC1, hA1⟩ := id hc
  by_cases q : nC ≤ i
  · have e0 : (wsH G ad h n)[i - nC]? = some (ad i, .inr (ci, fs.map (em ad))) := by
      have h9 := wsH_get (G := G) (ad := ad) (h := h) q hi
      rw [hh] at h9
      exact h9
    have hci : ci < 7 := by
      obtain ⟨r, hr9, -⟩ := hm.1 _ _ e0
      exact vwCl_lt hr9
    exact va_get (v := em ad v) hx1 hb1 hts1 (cls_ws hci) hown1 hK1 hm.1 _ e0 (vwCl_at hci) k hk (hts1 _ hw) (fun _ z => z) (by rw [List.getElem?_map, hv]; rfl) hdg hk9
  · have q1 : i < nC := by omega
    obtain ⟨c1, c2, -⟩ := hm.2.2.2.2.2 i q1
    obtain ⟨-, c4⟩ := hC1.1 i ci fs q1 (by rw [← c1]; exact hh)
    have c5 := c4 k v hv
    have e3 : em G.2.2.1 v = em ad v := by
      refine (em_eq (n := nC) ?_ (fun j hj => ((hm.2.2.2.2.2 j hj).2.1).symm))
      have h1 := (hm.2.2.2.2.2 i q1).2.2
      rw [hh] at h1
      exact h1 v (List.mem_of_getElem? hv)
    rw [e3, ← c2] at c5
    exact vk_getf hx1 hb1 c5 hm.2.2.1 hown1 (hts1 _ hw) (fun _ z => z) hdg hk9
theorem em_narrow {ad : Nat → Nat} {ty : FieldType} {v : Value} (hn : narrow ty v = v) : narrow ty (em ad v) = em ad v := by
  cases v <;> first | exact hn | (cases ty <;> rfl)
theorem em_fits {ad : Nat → Nat} {ty : FieldType} {v : Value} (hn : fits ty v = true) : fits ty (em ad v) = true := by
  cases v <;> first | exact hn | (cases ty <;> first | exact hn | rfl)
theorem clE_set {n ci k : Nat} {fs : List Value} {v : Value} (h : clE n (.inr (ci, fs))) (g : clV n v) : clE n (.inr (ci, fs.set k v)) := by
  intro w hw
  rcases List.mem_or_eq_of_mem_set hw with h1 | h1
  · exact h w h1
  · rw [h1]; exact g
theorem sw_putf {ci k idx i : Nat} {fs : List Value} {v : Value} (hp : pc + 3 = pc') (hdg : decode M.2.1 pc = .ok (.putfield idx, 3)) (hci : ci < 7) (hk : k < FN ci) (hw : Cond.fieldLink M.1.cls idx (FT ci k).1 (FT ci k).2.1 (FT ci k).2.2.1 ∈ GT) (hfin : (FT ci k).2.2.2 = false) (hh : h i = .inr (ci, fs)) (hi0 : nC ≤ i) (hlen : k < fs.length) (hn : narrow (FTy ci k) v = v) (hfit : fits (FTy ci k) v = true)
    (kk : SW SR M d bc bs pc' lv st (up h i (.inr (ci, fs.set k v))) n Post) : SW SR M d bc bs pc lv (v :: .ref i :: st) h n Post := by
  subst hp
  intro G p l e R s m args below meth c A ad0 n0 Q hc hr he H locs cells slots ls ad hm hl hx hbc hbs
  have hi : i < n := hl.2.2 _ (List.mem_cons_of_mem _ List.mem_cons_self) i rfl
  have hcl : clE n (.inr (ci, fs.set k v)) := clE_set (by have h1 := hm.cl hi; rw [hh] at h1; exact h1) (hl.2.2 _ List.mem_cons_self)
  obtain ⟨hx1, hb1, hr1, hml1, hown1, hts1, hlk1, htb1, hlt1, hin1, hK1, hN1, hSR1, hAO1, hC1, hA1⟩ := id hc
  have e0 : (wsH G ad h n)[i - nC]? = some (ad i, .inr (ci, fs.map (em ad))) := by
    have h9 := wsH_get (G := G) (ad := ad) (h := h) hi0 hi
    rw [hh] at h9
    exact h9
  refine va_put (v := em ad v) hx1 hb1 hts1 (cls_ws hci) (FTy ci) (cls_ty hci) (cls_nm hci) hown1 hK1 hm.1 hm.2.1 hm.2.2.1 _ e0 (vwCl_at hci) k hk (hts1 _ hw) (fun _ z => z) hfin (cls_ty hci k hk) (em_narrow hn) (em_fits hfit) (by rw [List.length_map]; exact hlen) hdg (fun H1 locs1 hP hD hS => ?_)
  rw [← List.map_set] at hP hD
  exact kk G p l e R s m args below meth c A ad0 n0 Q hc hr he H1 locs1 cells slots ls ad (hm.put hi0 hi hcl hP hD hS) (hl.stk (cl2 hl.2.2)) hx hbc hbs
theorem sw_putfF {ci k idx i : Nat} {fs : List Value} {v : Value} (hp : pc + 3 = pc') (hdg : decode M.2.1 pc = .ok (.putfield idx, 3)) (hci : ci < 7) (hk : k < FN ci) (hw : Cond.fieldLink M.1.cls idx (FT ci k).1 (FT ci k).2.1 (FT ci k).2.2.1 ∈ GT) (hfin : (FT ci k).2.2.2 = true) (hini : M.1.name = "<init>") (hdecl : (FT ci k).1 = M.1.cls) (hh : h i = .inr (ci, fs)) (hi0 : nC ≤ i) (hlen : k < fs.length) (hn : narrow (FTy ci k) v = v) (hfit : fits (FTy ci k) v = true)
    (kk : SW SR M d bc bs pc' lv st (up h i (.inr (ci, fs.set k v))) n Post) : SW SR M d bc bs pc lv (v :: .ref i :: st) h n Post := by
  subst hp
  intro G p l e R s m args below meth c A ad0 n0 Q hc hr he H locs cells slots ls ad hm hl hx hbc hbs
  have hi : i < n := hl.2.2 _ (List.mem_cons_of_mem _ List.mem_cons_self) i rfl
  have hcl : clE n (.inr (ci, fs.set k v)) := clE_set (by have h1 := hm.cl hi; rw [hh] at h1; exact h1) (hl.2.2 _ List.mem_cons_self)
  obtain ⟨hx1, hb1, hr1, hml1, hown1, hts1, hlk1, htb1, hlt1, hin1, hK1, hN1, hSR1, hAO1, hC1, hA1⟩ := id hc
  have e0 : (wsH G ad h n)[i - nC]? = some (ad i, .inr (ci, fs.map (em ad))) := by
    have h9 := wsH_get (G := G) (ad := ad) (h := h) hi0 hi
    rw [hh] at h9
    exact h9
  refine va_putF (v := em ad v) hx1 hb1 hts1 (cls_ws hci) (FTy ci) (cls_ty hci) (cls_nm hci) hown1 hK1 hm.1 hm.2.1 hm.2.2.1 _ e0 (vwCl_at hci) k hk (hts1 _ hw) (fun _ z => z) hfin (hin1 hini) hdecl (cls_ty hci k hk) (em_narrow hn) (em_fits hfit) (by rw [List.length_map]; exact hlen) hdg (fun H1 locs1 hP hD hS => ?_)
  rw [← List.map_set] at hP hD
  exact kk G p l e R s m args below meth c A ad0 n0 Q hc hr he H1 locs1 cells slots ls ad (hm.put hi0 hi hcl hP hD hS) (hl.stk (cl2 hl.2.2)) hx hbc hbs
/-- nest mates' fields -/
theorem sw_getN {ci k idx i : Nat} {fs : List Value} {v : Value} {host : String} (hp : pc + 3 = pc') (hdg : decode M.2.1 pc = .ok (.getfield idx, 3)) (hk : k < FN ci) (hw : Cond.fieldLinkNest M.1.cls idx (FT ci k).1 (FT ci k).2.1 (FT ci k).2.2.1 host ∈ NW) (hh : h i = .inr (ci, fs)) (hi0 : nC ≤ i) (hv : fs[k]? = some v)
    (kk : SW SR M d bc bs pc' lv (v :: st) h n Post) : SW SR M d bc bs pc lv (.ref i :: st) h n Post := by
  subst hp
  intro G p l e R s m args below meth c A ad0 n0 Q hc hr he H locs cells slots ls ad hm hl hx hbc hbs
  have hi : i < n := hl.2.2 _ List.mem_cons_self i rfl
  have hcl : clV n v := by
    have h1 := hm.cl hi
    rw [hh] at h1
    exact h1 v (List.mem_of_getElem? hv)
  have hk9 := kk G p l e R s m args below meth c A ad0 n0 Q hc hr he H locs cells slots ls ad hm (hl.stk (clc (cl1 hl.2.2) hcl)) hx hbc hbs
  obtain ⟨hx1, hb1, hr1, hml1, hown1, hts1, hlk1, htb1, hlt1, hin1, hK1, hN1, hSR1, hAO1, hC1, hA1⟩ := id hc
  have e0 : (wsH G ad h n)[i - nC]? = some (ad i, .inr (ci, fs.map (em ad))) := by
    have h9 := wsH_get (G := G) (ad := ad) (h := h) hi0 hi
    rw [hh] at h9
    exact h9
  have hci : ci < 7 := by
    obtain ⟨r, hr9, -⟩ := hm.1 _ _ e0
    exact vwCl_lt hr9
  exact va_getN (v := em ad v) hx1 hb1 hts1 (cls_ws hci) hown1 hK1 hm.1 _ e0 (vwCl_at hci) k hk (va_Nw.use rfl (hN1 _ hw)) (fun _ z => z) (by rw [List.getElem?_map, hv]; rfl) hdg hk9
theorem sw_putN {ci k idx i : Nat} {fs : List Value} {v : Value} {host : String} (hp : pc + 3 = pc') (hdg : decode M.2.1 pc = .ok (.putfield idx, 3)) (hci : ci < 7) (hk : k < FN ci) (hw : Cond.fieldLinkNest M.1.cls idx (FT ci k).1 (FT ci k).2.1 (FT ci k).2.2.1 host ∈ NW) (hfin : (FT ci k).2.2.2 = false) (hh : h i = .inr (ci, fs)) (hi0 : nC ≤ i) (hlen : k < fs.length) (hn : narrow (FTy ci k) v = v) (hfit : fits (FTy ci k) v = true)
    (kk : SW SR M d bc bs pc' lv st (up h i (.inr (ci, fs.set k v))) n Post) : SW SR M d bc bs pc lv (v :: .ref i :: st) h n Post := by
  subst hp
  intro G p l e R s m args below meth c A ad0 n0 Q hc hr he H locs cells slots ls ad hm hl hx hbc hbs
  have hi : i < n := hl.2.2 _ (List.mem_cons_of_mem _ List.mem_cons_self) i rfl
  have hcl : clE n (.inr (ci, fs.set k v)) := clE_set (by have h1 := hm.cl hi; rw [hh] at h1; exact h1) (hl.2.2 _ List.mem_cons_self)
  obtain ⟨hx1, hb1, hr1, hml1, hown1, hts1, hlk1, htb1, hlt1, hin1, hK1, hN1, hSR1, hAO1, hC1, hA1⟩ := id hc
  have e0 : (wsH G ad h n)[i - nC]? = some (ad i, .inr (ci, fs.map (em ad))) := by
    have h9 := wsH_get (G := G) (ad := ad) (h := h) hi0 hi
    rw [hh] at h9
    exact h9
  refine va_putN (v := em ad v) hx1 hb1 hts1 (cls_ws hci) (FTy ci) (cls_ty hci) (cls_nm hci) hown1 hK1 hm.1 hm.2.1 hm.2.2.1 _ e0 (vwCl_at hci) k hk (va_Nw.use rfl (hN1 _ hw)) (fun _ z => z) hfin (cls_ty hci k hk) (em_narrow hn) (em_fits hfit) (by rw [List.length_map]; exact hlen) hdg (fun H1 locs1 hP hD hS => ?_)
  rw [← List.map_set] at hP hD
  exact kk G p l e R s m args below meth c A ad0 n0 Q hc hr he H1 locs1 cells slots ls ad (hm.put hi0 hi hcl hP hD hS) (hl.stk (cl2 hl.2.2)) hx hbc hbs
theorem ST_cl : ∀ q ∈ ST, clV nC q.2.2.2 := by
  intro q hq
  simp only [ST, List.mem_cons, List.not_mem_nil, or_false] at hq
  rcases hq with rfl | rfl | rfl | rfl | rfl | rfl | rfl | rfl <;> intro i hi <;> cases hi <;> decide
theorem sw_gets {idx : Nat} {C nm ds : String} {v : Value} (hp : pc + 3 = pc') (hdg : decode M.2.1 pc = .ok (.getstatic idx, 3)) (hq : (C, nm, ds, v) ∈ ST) (hw : Cond.fieldLink M.1.cls idx C nm ds ∈ GT)
    (kk : SW SR M d bc bs pc' lv (v :: st) h n Post) : SW SR M d bc bs pc lv st h n Post := by
  subst hp
  intro G p l e R s m args below meth c A ad0 n0 Q hc hr he H locs cells slots ls ad hm hl hx hbc hbs
  have hk9 := kk G p l e R s m args below meth c A ad0 n0 Q hc hr he H locs cells slots ls ad hm (hl.stk (clc hl.2.2 (clV_mono (ST_cl _ hq) hm.lt))) hx hbc hbs
  obtain ⟨hx1, hb1, hr1, hml1, hown1, hts1, hlk1, htb1, hlt1, hin1, hK1, hN1, hSR1, hAO1, hC1, hA1⟩ := id hc
  have e3 : em G.2.2.1 v = em ad v := em_eq (n := nC) (ST_cl _ hq) (fun j hj => ((hm.2.2.2.2.2 j hj).2.1).symm)
  have c5 := hC1.2.2.1 _ hq
  dsimp only at c5
  rw [e3] at c5
  exact va_gets hx1 hb1 c5 hm.2.2.1 hown1 (hts1 _ hw) (fun _ z => z) hdg hk9
end
