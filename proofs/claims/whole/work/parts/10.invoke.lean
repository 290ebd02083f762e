/-! calls -/
theorem PicU.warm {SR : SRT} {G : GD} {ad : Nat → Nat} {h : AH} {n sz : Nat} {U U' : State} (hW : U.WarmedH U'.vm) (hh : U'.heap = U.heap) (hp : PicU SR G ad h n sz U) : PicU SR G ad h n sz U' := by
  obtain ⟨h1, h2, h3, h4, h5, h6, h7, h8, h9, h10, h11⟩ := hp
  refine ⟨by rw [hh]; exact h1, by rw [hh]; exact h2, h3, h4, h5, h6, va_K.moved hW.alike h7, h8.warm hW, fun q hq => (h9 q hq).warm hW, h10.moved hW.alike, ?_⟩
  rw [hh]
  exact h11.moved hW.alike
theorem picU_blind {SR : SRT} {G : GD} {ad : Nat → Nat} {h : AH} {n sz : Nat} {as : List Value} : FrameBlind (va_Pc as (PicU SR G ad h n sz)) := fun a U g mk q => ⟨q.1, PicU.warm (U := U) (U' := U.calling g mk a) (State.WarmedH.refl U) rfl q.2⟩
theorem ws_free {G : GD} {A : Nat → Prop} {H0 : Heap} {h : AH} {n : Nat} {H : Heap} {locs : List Loc} {ad : Nat → Nat} (hm : HM G A H0 h n H locs ad) (hA : ∀ q, H0.size ≤ q → A q) : ∀ q, va_A (wsH G ad h n) H.size q → A q := fun q hq => by
  rcases hq with ⟨k, e, hk⟩ | hq
  · exact hm.2.1.2 k _ hk
  · exact hA q (Nat.le_trans hm.2.2.1.1 hq)
section
variable {SR : SRT} {M : MI} {p : Program} {l : Launch} {e : Env} {R : Room} {s : State} {m : MethodId} {args : Array Value} {below : List Frame} {meth : Method} {c : Code} {H : Heap} {locs : List Loc} {cells slots : Nat} {Q : State → Prop}
  {d bc bs bc' bs' pc n n0 : Nat} {lv : List (Nat × Value)} {st : List Value} {h : AH} {Post Post' : ARes → AH → Nat → Prop} {G : GD} {A : Nat → Prop} {ad ad0 : Nat → Nat} {ls : Array Slot} {st0 : List Value} {a : Array Value}
theorem picU_at (hc : CX SR G M p l s m args meth c A) (hm : HM G A s.heap h n H locs ad) {U : State} (hU : U.heap = H) (hW : s.WarmedH U.vm) : PicU SR G ad h n H.size U := by
  obtain ⟨hx1, hb1, hr1, hml1, hown1, hts1, hlk1, htb1, hlt1, hin1, hK1, hN1, hSR1, hAO1, hC1, hA1⟩ := id hc
  refine ⟨by rw [hU], by rw [hU]; exact hm.1, hm.2.1.weaken (fun _ _ _ _ => trivial), hm.2.2.2.1, hm.2.2.2.2.1, hm.2.2.2.2.2, va_K.moved hW.alike hK1, hN1.warm hW, fun q hq => (hSR1 q hq).warm hW, hAO1.moved hW.alike, ?_⟩
  rw [hU]
  exact ((hC1.kept hm.2.2.1.2.1).moved hW.alike).narrow (ws_free hm hA1)
theorem lm_ext {n' : Nat} {ad' : Nat → Nat} {st' : List Value} (hl : LM ad M.2.2.1 n lv st ls) (hE : Ext ad ad' n n') (hcl : ∀ v ∈ st', clV n' v) : LM ad' M.2.2.1 n' lv st' ls := by
  refine ⟨?_, fun q hq => clV_mono (hl.2.1 q hq) hE.1, hcl⟩
  have e1 : lv.map (fun z => (z.1, em ad' z.2)) = lv.map (fun z => (z.1, em ad z.2)) := List.map_congr_left (fun z hz => by rw [em_eq (hl.2.1 z hz) hE.2])
  rw [e1]
  exact hl.1
theorem run_go (hc : CX SR G M p l s m args meth c A) (hr : RM d R) (he : EN G M p l e R s m args below meth c A ad0 n0 Q Post) (hm : HM G A s.heap h n H locs ad) (hl : LM ad M.2.2.1 n lv st ls) (hx : Ext ad0 ad n0 n) (hbc : cells + bc ≤ R.cells) (hbs : slots + bs ≤ R.slots) (hb1 : bc' ≤ bc) (hb2 : bs' ≤ bs)
    (hrun : vx_Run p l e R s m args below meth c H locs cells slots bc' bs' (F0 m pc ls st0) (st.map (em ad)) (SQc G (va_A (wsH G ad h n) H.size) ad n Post' a) (SXc G (va_A (wsH G ad h n) H.size) ad n Post') (va_A (wsH G ad h n) H.size))
    (kk : ∀ v h' n', n ≤ n' → Post' (.inl v) h' n' → SW SR M d (bc - bc') (bs - bs') (pc + 3) lv (v.toList ++ st) h' n' Post) (kx : ∀ E h' n', n ≤ n' → Post' (.inr E) h' n' → SWX SR M d (bc - bc') (bs - bs') pc lv E h' n' Post) :
    W p l e R s m args below meth c H locs cells slots Q (F0 m pc ls st0) := by
  have hA1 : ∀ q, s.heap.size ≤ q → A q := hc.2.2.2.2.2.2.2.2.2.2.2.2.2.2.2
  have hfree := ws_free hm hA1
  intro T hT X
  rcases hrun T hT X with ⟨v, st₀, t, T', L, h0, X', hL, e1, e2, ⟨⟨v', ad', h', n', hv, hP, hE, hcl, hPic⟩, hF⟩, hst⟩ | ⟨q, st₀, t, T', L, E, ce, h0, X', hL, e1, e2, ⟨⟨ad', h', n', hP, hE, hPic⟩, hF⟩, hce, hcv, hcl, hst⟩
  · obtain ⟨k1, k2, k3⟩ := vx_keep h0 e1 hm.2.2.1 (fun q _ hq => hfree q hq) hfree hL hF
    have hv9 : v = v'.map (em ad') := Outcome.returned.inj hv
    subst hv9
    have hm' : HM G A s.heap h' n' T'.heap (locs ++ L) ad' := ⟨by rw [e1]; exact hPic.1, hPic.2.1.weaken (fun _ q _ hq => hfree q.1 hq), k3, hPic.2.2.1, hPic.2.2.2.1, hPic.2.2.2.2⟩
    have hcl' : ∀ w ∈ v'.toList ++ st, clV n' w := fun w hw => by
      rcases List.mem_append.mp hw with g | g
      · cases v' with
        | none => cases g
        | some z => cases g with
          | head => exact hcl _ rfl
          | tail _ g => cases g
      · exact clV_mono (hl.2.2 w g) hE.1
    have e9 : (v'.map (em ad')).toList ++ st.map (em ad) = (v'.toList ++ st).map (em ad') := by
      rw [List.map_append]
      congr 1
      · cases v' <;> rfl
      · exact List.map_congr_left (fun z hz => (em_eq (hl.2.2 z hz) hE.2).symm)
    have k9 := kk v' h' n' hE.1 hP G p l e R s m args below meth c A ad0 n0 Q hc hr he T'.heap (locs ++ L) (cells + bc') (slots + bs') ls ad' hm' (lm_ext hl hE hcl') (hx.tr hE) (by omega) (by omega) T' rfl X'
    obtain ⟨t2, a1, b1⟩ := k9
    refine ⟨t2, hst t2 ?_, b1⟩
    rw [← e9] at a1
    exact a1
  · obtain ⟨k1, k2, k3⟩ := vx_keep h0 e1 hm.2.2.1 (fun q _ hq => hfree q hq) hfree hL hF
    have hm' : HM G A s.heap h' n' T'.heap (locs ++ L) ad' := ⟨by rw [e1]; exact hPic.1, hPic.2.1.weaken (fun _ q _ hq => hfree q.1 hq), k3, hPic.2.2.1, hPic.2.2.2.1, hPic.2.2.2.2⟩
    obtain ⟨t2, a1, b1⟩ := kx E h' n' hE.1 hP G p l e R s m args below meth c A ad0 n0 Q hc hr he T'.heap (locs ++ L) (cells + bc') (slots + bs') ls ad' hm' (lm_ext hl hE (fun v hv => by cases hv)) (hx.tr hE) (by omega) (by omega) q ce (st.map (em ad)) (by rw [e1]; exact hce) hcv hcl T' rfl X'
    exact ⟨t2, hst.trans a1, b1⟩
theorem recv_at (hc : CX SR G M p l s m args meth c A) (hm : HM G A s.heap h n H locs ad) {b ci : Nat} {fs : List Value} (hb : h b = .inr (ci, fs)) (hbn : b < n) : ∃ cellB : Cell, H[ad b]? = some cellB ∧ cellB.vm.isStatics = false ∧ s.vm.findClass (CN ci) = some cellB.cls := by
  obtain ⟨hx1, hb1, hr1, hml1, hown1, hts1, hlk1, htb1, hlt1, hin1, hK1, hN1, hSR1, hAO1, hC1, hA1⟩ := id hc
  by_cases q : nC ≤ b
  · have e0 : (wsH G ad h n)[b - nC]? = some (ad b, .inr (ci, fs.map (em ad))) := by
      have h9 := wsH_get (G := G) (ad := ad) (h := h) q hbn
      rw [hb] at h9
      exact h9
    have hci : ci < 7 := by
      obtain ⟨r, hr9, -⟩ := hm.1 _ _ e0
      exact vwCl_lt hr9
    exact va_recv hK1 hm.1 (vwCl_at hci) e0
  · have q1 : b < nC := by omega
    obtain ⟨c1, c2, -⟩ := hm.2.2.2.2.2 b q1
    obtain ⟨c4, -⟩ := hC1.1 b ci fs q1 (by rw [← c1]; exact hb)
    rw [← c2] at c4
    obtain ⟨cell, g1, g2, g3, g4⟩ := c4.kept hm.2.2.1.2.1
    exact ⟨cell, g1, g2, g3⟩
end
theorem cat_map {ad : Nat → Nat} {st : List Value} : ((st.map (em ad)).map fun v => v.category).sum = (st.map fun v => v.category).sum := by
  rw [List.map_map]
  exact congrArg List.sum (List.map_congr_left (fun v _ => em_cat))
theorem rm_ok {d d' mx : Nat} {R : Room} {bc' bs' : Nat} (hr : RM d R) (hd : d' < d) (hm : mx ≤ 81) : (rmOf d' bc' bs').frames + 1 ≤ R.frames ∧ 8 + (mx + 11) + (rmOf d' bc' bs').locals ≤ R.locals := by
  have h1 := hr.1
  have h2 := hr.2
  constructor
  · show 2 * d' + 10 + 1 ≤ _
    omega
  · show 8 + (mx + 11) + (100 * d' + 200) ≤ _
    omega
def notMH (y : MethodName) : Bool := decide (y.cls ≠ "java/lang/invoke/MethodHandle") && decide (y.cls ≠ "java/lang/invoke/VarHandle")
theorem notMH_spec {y : MethodName} (h : notMH y = true) : y.cls ≠ "java/lang/invoke/MethodHandle" ∧ y.cls ≠ "java/lang/invoke/VarHandle" := by
  rw [notMH, Bool.and_eq_true] at h
  exact ⟨of_decide_eq_true h.1, of_decide_eq_true h.2⟩
theorem stk_map {ad : Nat → Nat} {as : List Value} {w : Value} {st : List Value} : (as.reverse ++ w :: st).map (em ad) = (as.map (em ad)).reverse ++ em ad w :: st.map (em ad) := by
  rw [List.map_append, List.map_reverse]
  rfl
theorem stk_map0 {ad : Nat → Nat} {as : List Value} {st : List Value} : (as.reverse ++ st).map (em ad) = (as.map (em ad)).reverse ++ st.map (em ad) := by
  rw [List.map_append, List.map_reverse]
section
variable {SR : SRT} {M M' : MI} {d d' bc bs bc' bs' pc idx n : Nat} {lv : List (Nat × Value)} {st as : List Value} {h : AH} {Post Post' : ARes → AH → Nat → Prop}
theorem sw_callV {b ci : Nat} {fs : List Value} (hdg : decode M.2.1 pc = .ok (.invokevirtual idx, 3)) (hw1 : Cond.methodLink M.1.cls idx M'.1 ∈ GT) (hw2 : Cond.instanceMethod M'.1 ∈ GT) (hw3 : Cond.selects M'.1.cls M'.1 M'.1 ∈ GT) (hw4 : Cond.initialized M'.1.cls ∈ GT) (hw5 : cwM M' ∈ GT) (hmh : notMH M'.1 = true) (hpar : (parseMethodDescriptor M'.1.desc).map (fun d => d.parameters.length) = some as.length) (hM0 : M'.2.2.2.2 = []) (hd' : d' < d) (hmx : M'.2.2.1 ≤ 81)
    (hM : SM SR M' d' bc' bs' (.ref b :: as) h n Post') (hb : h b = .inr (ci, fs)) (hci : CN ci = M'.1.cls) (hst : (st.map fun v => v.category).sum ≤ 8) (hb1 : bc' ≤ bc) (hb2 : bs' ≤ bs)
    (kk : ∀ v h' n', n ≤ n' → Post' (.inl v) h' n' → SW SR M d (bc - bc') (bs - bs') (pc + 3) lv (v.toList ++ st) h' n' Post) (kx : ∀ E h' n', n ≤ n' → Post' (.inr E) h' n' → SWX SR M d (bc - bc') (bs - bs') pc lv E h' n' Post) : SW SR M d bc bs pc lv (as.reverse ++ .ref b :: st) h n Post := by
  intro G p l e R s m args below meth c A ad0 n0 Q hc hr he H locs cells slots ls ad hm hl hx hbc hbs
  obtain ⟨hx1, hb9, hr1, hml1, hown1, hts1, hlk1, htb1, hlt1, hin1, hK1, hN1, hSR1, hAO1, hC1, hA1⟩ := id hc
  have hbn : b < n := hl.2.2 (.ref b) (List.mem_append_right _ List.mem_cons_self) b rfl
  have has : ∀ v ∈ Value.ref b :: as, clV n v := fun v hv => (List.mem_cons.mp hv).elim (fun q => by rw [q]; exact hl.2.2 _ (List.mem_append_right _ List.mem_cons_self)) (fun q => hl.2.2 v (List.mem_append_left _ (List.mem_reverse.mpr q)))
  have hl9 : LM ad M.2.2.1 n lv st ls := hl.stk (fun v hv => hl.2.2 v (List.mem_append_right _ (List.mem_cons_of_mem _ hv)))
  have hMet := hM l hlt1 G ad H.size has
  have hcw : cwM M' = Cond.code M'.1 M'.2.1 M'.2.2.1 M'.2.2.2.1 := by unfold cwM; rw [if_pos hM0]
  have hlen9 : (as.map (em ad)).length = as.length := List.length_map ..
  refine run_go hc hr he hm hl9 hx hbc hbs hb1 hb2 (a := ((Value.ref (ad b) :: as.map (em ad))).toArray) ?_ kk kx
  refine vx_runV (Ts := GT) (own := M.1.cls) (C := M'.1.cls) (cc := M.2.1) (nL := M.2.2.1) (bytes := M'.2.1) (maxL := M'.2.2.1) (ret := M'.2.2.2.1) (As := as.map (em ad)) ⟨hx1, hb9, hml1, hown1, hts1⟩ hMet
    (cwV (ws' := GT) as.length hts1 (fun w hw => ?_) (by rw [← hcw]; rfl) rfl rfl ⟨rfl, (notMH_spec hmh).1, (notMH_spec hmh).2, hpar⟩ (rm_ok hr hd' hmx)) ⟨picU_blind, hci ▸ recv_at hc hm hb hbn, fun U hU hW => ⟨rfl, picU_at hc hm hU hW⟩⟩ rfl hlen9 hl.1.1 stk_map (by show 2 * 0 + ((st.map (em ad)).map fun v => v.category).sum ≤ 8; rw [cat_map]; omega) hdg ⟨by omega, by omega⟩
  unfold wsV at hw
  simp only [List.cons_append, List.nil_append, List.mem_cons] at hw
  rcases hw with rfl | rfl | rfl | rfl | hw
  · exact ⟨hw1, good_of_word (GT_good _ hw1)⟩
  · exact ⟨hw2, good_of_word (GT_good _ hw2)⟩
  · exact ⟨hw3, good_of_word (GT_good _ hw3)⟩
  · exact ⟨hw4, good_of_word (GT_good _ hw4)⟩
  · exact wsM_GT hw5 w hw
theorem sw_callS (hdg : decode M.2.1 pc = .ok (.invokestatic idx, 3)) (hw1 : Cond.methodLink M.1.cls idx M'.1 ∈ GT) (hw2 : Cond.static M'.1 ∈ GT) (hw4 : Cond.initialized M'.1.cls ∈ GT) (hw5 : cwM M' ∈ GT) (hmh : notMH M'.1 = true) (hpar : (parseMethodDescriptor M'.1.desc).map (fun d => d.parameters.length) = some as.length) (hM0 : M'.2.2.2.2 = []) (hd' : d' < d) (hmx : M'.2.2.1 ≤ 81)
    (hM : SM SR M' d' bc' bs' as h n Post') (hst : (st.map fun v => v.category).sum ≤ 8) (hb1 : bc' ≤ bc) (hb2 : bs' ≤ bs)
    (kk : ∀ v h' n', n ≤ n' → Post' (.inl v) h' n' → SW SR M d (bc - bc') (bs - bs') (pc + 3) lv (v.toList ++ st) h' n' Post) (kx : ∀ E h' n', n ≤ n' → Post' (.inr E) h' n' → SWX SR M d (bc - bc') (bs - bs') pc lv E h' n' Post) : SW SR M d bc bs pc lv (as.reverse ++ st) h n Post := by
  intro G p l e R s m args below meth c A ad0 n0 Q hc hr he H locs cells slots ls ad hm hl hx hbc hbs
  obtain ⟨hx1, hb9, hr1, hml1, hown1, hts1, hlk1, htb1, hlt1, hin1, hK1, hN1, hSR1, hAO1, hC1, hA1⟩ := id hc
  have has : ∀ v ∈ as, clV n v := fun v hv => hl.2.2 v (List.mem_append_left _ (List.mem_reverse.mpr hv))
  have hl9 : LM ad M.2.2.1 n lv st ls := hl.stk (fun v hv => hl.2.2 v (List.mem_append_right _ hv))
  have hMet := hM l hlt1 G ad H.size has
  have hcw : cwM M' = Cond.code M'.1 M'.2.1 M'.2.2.1 M'.2.2.2.1 := by unfold cwM; rw [if_pos hM0]
  refine run_go hc hr he hm hl9 hx hbc hbs hb1 hb2 (a := (as.map (em ad)).toArray) ?_ kk kx
  refine vx_runS (Ts := GT) (own := M.1.cls) (cc := M.2.1) (nL := M.2.2.1) (bytes := M'.2.1) (maxL := M'.2.2.1) (ret := M'.2.2.2.1) (As := as.map (em ad)) ⟨hx1, hb9, hml1, hown1, hts1⟩ hMet
    (va_cwS (ws' := GT) as.length hts1 (fun w hw => ?_) (by rw [← hcw]; rfl) rfl rfl ⟨(notMH_spec hmh).1, (notMH_spec hmh).2, hpar⟩ (rm_ok hr hd' hmx)) ⟨picU_blind, fun U hU hW => ⟨rfl, picU_at hc hm hU hW⟩⟩ rfl (List.length_map ..) hl.1.1 stk_map0 (by show 2 * 0 + ((st.map (em ad)).map fun v => v.category).sum ≤ 8; rw [cat_map]; omega) hdg ⟨by omega, by omega⟩
  unfold va_wsS at hw
  simp only [List.cons_append, List.nil_append, List.mem_cons] at hw
  rcases hw with rfl | rfl | rfl | hw
  · exact ⟨hw1, good_of_word (GT_good _ hw1)⟩
  · exact ⟨hw2, good_of_word (GT_good _ hw2)⟩
  · exact ⟨hw4, good_of_word (GT_good _ hw4)⟩
  · exact wsM_GT hw5 w hw
/-- a static method with a table of its own -/
theorem sw_callSH (hdg : decode M.2.1 pc = .ok (.invokestatic idx, 3)) (hw1 : Cond.methodLink M.1.cls idx M'.1 ∈ GT) (hw2 : Cond.static M'.1 ∈ GT) (hw4 : Cond.initialized M'.1.cls ∈ GT) (hw5 : cwM M' ∈ GT) (hmh : notMH M'.1 = true) (hpar : (parseMethodDescriptor M'.1.desc).map (fun d => d.parameters.length) = some as.length) (hM0 : M'.2.2.2.2 ≠ []) (hd' : d' < d) (hmx : M'.2.2.1 ≤ 81)
    (hM : SM SR M' d' bc' bs' as h n Post') (hst : (st.map fun v => v.category).sum ≤ 8) (hb1 : bc' ≤ bc) (hb2 : bs' ≤ bs)
    (kk : ∀ v h' n', n ≤ n' → Post' (.inl v) h' n' → SW SR M d (bc - bc') (bs - bs') (pc + 3) lv (v.toList ++ st) h' n' Post) (kx : ∀ E h' n', n ≤ n' → Post' (.inr E) h' n' → SWX SR M d (bc - bc') (bs - bs') pc lv E h' n' Post) : SW SR M d bc bs pc lv (as.reverse ++ st) h n Post := by
  intro G p l e R s m args below meth c A ad0 n0 Q hc hr he H locs cells slots ls ad hm hl hx hbc hbs
  obtain ⟨hx1, hb9, hr1, hml1, hown1, hts1, hlk1, htb1, hlt1, hin1, hK1, hN1, hSR1, hAO1, hC1, hA1⟩ := id hc
  have has : ∀ v ∈ as, clV n v := fun v hv => hl.2.2 v (List.mem_append_left _ (List.mem_reverse.mpr hv))
  have hl9 : LM ad M.2.2.1 n lv st ls := hl.stk (fun v hv => hl.2.2 v (List.mem_append_right _ hv))
  have hMet := hM l hlt1 G ad H.size has
  have hcw : cwM M' = Cond.codeWith M'.1 M'.2.1 M'.2.2.1 M'.2.2.2.1 M'.2.2.2.2 := by unfold cwM; rw [if_neg hM0]
  refine run_go hc hr he hm hl9 hx hbc hbs hb1 hb2 (a := (as.map (em ad)).toArray) ?_ kk kx
  refine vx_runSX (Ts := GT) (own := M.1.cls) (cc := M.2.1) (nL := M.2.2.1) (bytes := M'.2.1) (maxL := M'.2.2.1) (ret := M'.2.2.2.1) (hh := M'.2.2.2.2) (As := as.map (em ad)) ⟨hx1, hb9, hml1, hown1, hts1⟩ hMet
    (vx_cwSW (ws' := GT) as.length hts1 (fun w hw => ?_) (by rw [← hcw]; rfl) rfl rfl ⟨(notMH_spec hmh).1, (notMH_spec hmh).2, hpar⟩ (rm_ok hr hd' hmx)) ⟨picU_blind, fun U hU hW => ⟨rfl, picU_at hc hm hU hW⟩⟩ rfl (List.length_map ..) hl.1.1 stk_map0 (by show 2 * 0 + ((st.map (em ad)).map fun v => v.category).sum ≤ 8; rw [cat_map]; omega) hdg ⟨by omega, by omega⟩
  unfold va_wsS at hw
  simp only [List.cons_append, List.nil_append, List.mem_cons] at hw
  rcases hw with rfl | rfl | rfl | hw
  · exact ⟨hw1, good_of_word (GT_good _ hw1)⟩
  · exact ⟨hw2, good_of_word (GT_good _ hw2)⟩
  · exact ⟨hw4, good_of_word (GT_good _ hw4)⟩
  · exact wsM_GT hw5 w hw
/-- a constructor -/
theorem sw_callI {b : Nat} (hdg : decode M.2.1 pc = .ok (.invokespecial idx, 3)) (hw1 : Cond.methodLink M.1.cls idx M'.1 ∈ GT) (hw2 : Cond.instanceMethod M'.1 ∈ GT) (hw4 : Cond.initialized M'.1.cls ∈ GT) (hw5 : cwM M' ∈ GT) (hnm : M'.1.name = "<init>") (hret : M'.2.2.2.1 = none) (hmh : notMH M'.1 = true) (hpar : (parseMethodDescriptor M'.1.desc).map (fun d => d.parameters.length) = some as.length) (hM0 : M'.2.2.2.2 = []) (hd' : d' < d) (hmx : M'.2.2.1 ≤ 81)
    (hM : SM SR M' d' bc' bs' (.ref b :: as) h n Post') (hst : (st.map fun v => v.category).sum ≤ 8) (hb1 : bc' ≤ bc) (hb2 : bs' ≤ bs)
    (kk : ∀ v h' n', n ≤ n' → Post' (.inl v) h' n' → SW SR M d (bc - bc') (bs - bs') (pc + 3) lv (v.toList ++ st) h' n' Post) (kx : ∀ E h' n', n ≤ n' → Post' (.inr E) h' n' → SWX SR M d (bc - bc') (bs - bs') pc lv E h' n' Post) : SW SR M d bc bs pc lv (as.reverse ++ .ref b :: st) h n Post := by
  intro G p l e R s m args below meth c A ad0 n0 Q hc hr he H locs cells slots ls ad hm hl hx hbc hbs
  obtain ⟨hx1, hb9, hr1, hml1, hown1, hts1, hlk1, htb1, hlt1, hin1, hK1, hN1, hSR1, hAO1, hC1, hA1⟩ := id hc
  have has : ∀ v ∈ Value.ref b :: as, clV n v := fun v hv => (List.mem_cons.mp hv).elim (fun q => by rw [q]; exact hl.2.2 _ (List.mem_append_right _ List.mem_cons_self)) (fun q => hl.2.2 v (List.mem_append_left _ (List.mem_reverse.mpr q)))
  have hl9 : LM ad M.2.2.1 n lv st ls := hl.stk (fun v hv => hl.2.2 v (List.mem_append_right _ (List.mem_cons_of_mem _ hv)))
  have hMet := hM l hlt1 G ad H.size has
  have hcw : cwM M' = Cond.code M'.1 M'.2.1 M'.2.2.1 none := by unfold cwM; rw [if_pos hM0, hret]
  refine run_go hc hr he hm hl9 hx hbc hbs hb1 hb2 (a := ((Value.ref (ad b) :: as.map (em ad))).toArray) ?_ kk kx
  exact vx_runI (Ts := GT) (own := M.1.cls) (cc := M.2.1) (nL := M.2.2.1) (bytes := M'.2.1) (maxL := M'.2.2.1) (As := as.map (em ad)) ⟨hx1, hb9, hml1, hown1, hts1⟩ hMet
    (cwI (ws' := GT) as.length hts1 (wsM_GT hw5) (by rw [← hcw]; rfl) rfl rfl (hts1 _ hw4) (hts1 _ hw1) (hts1 _ hw2) hnm ⟨(notMH_spec hmh).1, (notMH_spec hmh).2, hpar⟩ (rm_ok hr hd' hmx)) ⟨picU_blind, fun U hU hW => ⟨rfl, picU_at hc hm hU hW⟩⟩ rfl (List.length_map ..) hl.1.1 stk_map (by show 2 * 0 + ((st.map (em ad)).map fun v => v.category).sum ≤ 8; rw [cat_map]; omega) hdg ⟨by omega, by omega⟩
/-- a private constructor of a nest mate -/
theorem sw_callIN {b : Nat} {host : String} (hdg : decode M.2.1 pc = .ok (.invokespecial idx, 3)) (hw1 : Cond.methodLinkNest M.1.cls idx M'.1 host ∈ NW) (hw2 : Cond.instanceMethod M'.1 ∈ GT) (hw4 : Cond.initialized M'.1.cls ∈ GT) (hw5 : cwM M' ∈ GT) (hnm : M'.1.name = "<init>") (hret : M'.2.2.2.1 = none) (hmh : notMH M'.1 = true) (hpar : (parseMethodDescriptor M'.1.desc).map (fun d => d.parameters.length) = some as.length) (hM0 : M'.2.2.2.2 = []) (hd' : d' < d) (hmx : M'.2.2.1 ≤ 81)
    (hM : SM SR M' d' bc' bs' (.ref b :: as) h n Post') (hst : (st.map fun v => v.category).sum ≤ 8) (hb1 : bc' ≤ bc) (hb2 : bs' ≤ bs)
    (kk : ∀ v h' n', n ≤ n' → Post' (.inl v) h' n' → SW SR M d (bc - bc') (bs - bs') (pc + 3) lv (v.toList ++ st) h' n' Post) (kx : ∀ E h' n', n ≤ n' → Post' (.inr E) h' n' → SWX SR M d (bc - bc') (bs - bs') pc lv E h' n' Post) : SW SR M d bc bs pc lv (as.reverse ++ .ref b :: st) h n Post := by
  intro G p l e R s m args below meth c A ad0 n0 Q hc hr he H locs cells slots ls ad hm hl hx hbc hbs
  obtain ⟨hx1, hb9, hr1, hml1, hown1, hts1, hlk1, htb1, hlt1, hin1, hK1, hN1, hSR1, hAO1, hC1, hA1⟩ := id hc
  have has : ∀ v ∈ Value.ref b :: as, clV n v := fun v hv => (List.mem_cons.mp hv).elim (fun q => by rw [q]; exact hl.2.2 _ (List.mem_append_right _ List.mem_cons_self)) (fun q => hl.2.2 v (List.mem_append_left _ (List.mem_reverse.mpr q)))
  have hl9 : LM ad M.2.2.1 n lv st ls := hl.stk (fun v hv => hl.2.2 v (List.mem_append_right _ (List.mem_cons_of_mem _ hv)))
  have hMet := hM l hlt1 G ad H.size has
  have hcw : cwM M' = Cond.code M'.1 M'.2.1 M'.2.2.1 none := by unfold cwM; rw [if_pos hM0, hret]
  refine run_go hc hr he hm hl9 hx hbc hbs hb1 hb2 (a := ((Value.ref (ad b) :: as.map (em ad))).toArray) ?_ kk kx
  exact vx_runIN (Ts := GT) (own := M.1.cls) (host := host) (cc := M.2.1) (nL := M.2.2.1) (bytes := M'.2.1) (maxL := M'.2.2.1) (As := as.map (em ad)) ⟨hx1, hb9, hml1, hown1, hts1⟩ hMet
    ⟨va_cnB (ws' := GT) as.length hts1 (wsM_GT hw5) (by rw [← hcw]; rfl) rfl rfl (hN1 _ hw1) (hts1 _ hw4) ⟨(notMH_spec hmh).1, (notMH_spec hmh).2, hpar⟩ (rm_ok hr hd' hmx), hnm, hts1 _ hw2⟩ ⟨picU_blind, fun U hU hW => ⟨rfl, picU_at hc hm hU hW⟩⟩ rfl (List.length_map ..) hl.1.1 stk_map (by show 2 * 0 + ((st.map (em ad)).map fun v => v.category).sum ≤ 8; rw [cat_map]; omega) hdg ⟨by omega, by omega⟩
end
