/-! super.m(..) -/
theorem classAt_ci {D : va_G} {tys : List (ClassId × FieldType)} {s : State} {ci : Nat} (hK : va_K D vwCl tys s) (hci : ci < 7) : ∃ cC, ClassAt s (CN ci) cC := by
  have h := hK.1 ci _ (vwCl_at hci)
  unfold u_Kn at h
  exact ⟨D.1 ci, h.2⟩
section
variable {SR : SRT} {M M' : MI} {d d' bc bs bc' bs' pc idx n : Nat} {lv : List (Nat × Value)} {st as : List Value} {h : AH} {Post Post' : ARes → AH → Nat → Prop}
theorem sw_callSU {b ci : Nat} {fs : List Value} (hdg : decode M.2.1 pc = .ok (.invokespecial idx, 3)) (hw1 : Cond.methodLink M.1.cls idx M'.1 ∈ GT) (hw6 : Cond.sameMethod M'.1.cls M'.1.cls M'.1.name M'.1.desc ∈ GT) (hno : M'.1.name ≠ "<init>") (hci : ci < 7) (hw2 : Cond.instanceMethod M'.1 ∈ GT) (hw3 : Cond.superclass M.1.cls M'.1.cls ∈ GT) (hw4 : Cond.initialized M'.1.cls ∈ GT) (hw5 : cwM M' ∈ GT) (hpar : (parseMethodDescriptor M'.1.desc).map (fun d => d.parameters.length) = some as.length) (hM0 : M'.2.2.2.2 = []) (hd' : d' < d) (hmx : M'.2.2.1 ≤ 81)
    (hM : SM SR M' d' bc' bs' (.ref b :: as) h n Post') (hb : h b = .inr (ci, fs)) (hst : (st.map fun v => v.category).sum ≤ 8) (hb1 : bc' ≤ bc) (hb2 : bs' ≤ bs)
    (kk : ∀ v h' n', n ≤ n' → Post' (.inl v) h' n' → SW SR M d (bc - bc') (bs - bs') (pc + 3) lv (v.toList ++ st) h' n' Post) (kx : ∀ E h' n', n ≤ n' → Post' (.inr E) h' n' → SWX SR M d (bc - bc') (bs - bs') pc lv E h' n' Post) : SW SR M d bc bs pc lv (as.reverse ++ .ref b :: st) h n Post := by
  intro G p l e R s m args below meth c A ad0 n0 Q hc hr he H locs cells slots ls ad hm hl hx hbc hbs
  obtain ⟨hx1, hb9, hr1, hml1, hown1, hts1, hlk1, htb1, hlt1, hin1, hK1, hN1, hSR1, hAO1, hC1, hA1⟩ := id hc
  have hbn : b < n := hl.2.2 (.ref b) (List.mem_append_right _ List.mem_cons_self) b rfl
  have has : ∀ v ∈ Value.ref b :: as, clV n v := fun v hv => (List.mem_cons.mp hv).elim (fun q => by rw [q]; exact hl.2.2 _ (List.mem_append_right _ List.mem_cons_self)) (fun q => hl.2.2 v (List.mem_append_left _ (List.mem_reverse.mpr q)))
  have hl9 : LM ad M.2.2.1 n lv st ls := hl.stk (fun v hv => hl.2.2 v (List.mem_append_right _ (List.mem_cons_of_mem _ hv)))
  have hMet := hM l hlt1 G ad H.size has
  have hcw : cwM M' = Cond.code M'.1 M'.2.1 M'.2.2.1 M'.2.2.2.1 := by unfold cwM; rw [if_pos hM0]
  have hlen9 : (as.map (em ad)).length = as.length := List.length_map ..
  refine run_go hc hr he hm hl9 hx hbc hbs hb1 hb2 (a := ((Value.ref (ad b) :: as.map (em ad))).toArray) ?_ kk kx
  obtain ⟨cC, hat⟩ := classAt_ci hK1 hci
  refine vx_runSU (Ts := GT) (own := M.1.cls) (C := CN ci) hat (cc := M.2.1) (nL := M.2.2.1) (bytes := M'.2.1) (maxL := M'.2.2.1) (ret := M'.2.2.2.1) (As := as.map (em ad)) ⟨hx1, hb9, hml1, hown1, hts1⟩ hMet
    (va_cwSU (ws' := GT) as.length hts1 (fun w hw => ?_) (by rw [← hcw]; rfl) rfl rfl ⟨hno, hpar⟩ (rm_ok hr hd' hmx)) ⟨picU_blind, recv_at hc hm hb hbn, fun U hU hW => ⟨rfl, picU_at hc hm hU hW⟩⟩ rfl hlen9 hl.1.1 stk_map (by show 2 * 0 + ((st.map (em ad)).map fun v => v.category).sum ≤ 8; rw [cat_map]; omega) hdg ⟨by omega, by omega⟩
  unfold va_wsSU at hw
  simp only [List.cons_append, List.nil_append, List.mem_cons] at hw
  rcases hw with rfl | rfl | rfl | rfl | rfl | hw
  · exact ⟨hw1, good_of_word (GT_good _ hw1)⟩
  · exact ⟨hw6, good_of_word (GT_good _ hw6)⟩
  · exact ⟨hw3, good_of_word (GT_good _ hw3)⟩
  · exact ⟨hw2, good_of_word (GT_good _ hw2)⟩
  · exact ⟨hw4, good_of_word (GT_good _ hw4)⟩
  · exact wsM_GT hw5 w hw
end
