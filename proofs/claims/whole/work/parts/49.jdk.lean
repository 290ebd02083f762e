/-! calls of private methods of a class above, of a method that overrides; bytes copied, cloned -/
theorem selects_priv {C : String} {y z : MethodName} {s : State} {args : Array Value} {n : Nat} (hy : y.cls ≠ "java/lang/invoke/MethodHandle" ∧ y.cls ≠ "java/lang/invoke/VarHandle") (hins : (Cond.instantiable C n).before args s = true)
    (hpriv : (Cond.privateMethod y).before args s = true) (hinst : (Cond.instanceMethod y).before args s = true) (hz : (Cond.selects C z z).before args s = true) (hzc : z.cls = y.cls) : (Cond.selects C y y).before args s = true := by
  obtain ⟨c, k, hc, hk, -, hniab, -, -⟩ := Cond.instantiable_spec hins
  obtain ⟨mk, methM, hnamed, hmethM, -, -⟩ := Cond.instanceMethod_spec hinst
  have hfound : s.methodFound? y.cls y.name y.desc = some mk := State.methodFound?_of_named hnamed hy
  obtain ⟨c2, r2, m2, -, -, q3, -, kP, hkP, hkPi⟩ := Cond.selects_spec hz
  have hcls : m2.cls = mk.cls := Option.some.inj ((findClass_of_methodNamed q3).symm.trans ((congrArg s.vm.findClass hzc).trans (findClass_of_methodNamed hnamed)))
  have hsel : selectMethod {} s.vm c mk = .method mk := selectMethod_private hmethM (Cond.privateMethod_at hpriv mk methM hnamed hmethM)
  rw [hcls] at hkP
  simp only [Cond.before, Cond.holds, Cond.value, hc, hfound, hnamed, hsel, hkP]
  simp; exact hkPi
section
variable {SR : SRT} {M M' : MI} {d d' bc bs bc' bs' pc pc' idx tgt n : Nat} {lv : List (Nat × Value)} {st as : List Value} {h : AH} {Post Post' : ARes → AH → Nat → Prop}
/-- a method that overrides the named one -/
theorem sw_callO {b ci : Nat} {fs : List Value} {x : MethodName} {owner : String} (hdg : decode M.2.1 pc = .ok (.invokevirtual idx, 3)) (hw1 : Cond.methodLink M.1.cls idx x ∈ GT) (hw6 : Cond.sameMethod x.cls owner x.name x.desc ∈ GT) (hw7 : Cond.instanceMethod ⟨owner, x.name, x.desc⟩ ∈ GT) {b0 : ByteArray} {m0 : Nat} {r0 : Option FieldType} (hw8 : Cond.code ⟨owner, x.name, x.desc⟩ b0 m0 r0 ∈ GT) (hw2 : Cond.instanceMethod M'.1 ∈ GT) (hw3 : Cond.selects (CN ci) x M'.1 ∈ GT) (hw4 : Cond.initialized M'.1.cls ∈ GT) (hw5 : cwM M' ∈ GT) (hmh : owner ≠ "java/lang/invoke/MethodHandle" ∧ owner ≠ "java/lang/invoke/VarHandle") (hpar : (parseMethodDescriptor x.desc).map (fun d => d.parameters.length) = some as.length) (hM0 : M'.2.2.2.2 = []) (hd' : d' < d) (hmx : M'.2.2.1 ≤ 81)
    (hM : SM SR M' d' bc' bs' (.ref b :: as) h n Post') (hb : h b = .inr (ci, fs)) (hst : (st.map fun v => v.category).sum ≤ 8) (hb1 : bc' ≤ bc) (hb2 : bs' ≤ bs)
    (kx : ∀ E h' n', n ≤ n' → Post' (.inr E) h' n' → SWX SR M d (bc - bc') (bs - bs') pc lv E h' n' Post) (kk : ∀ v h' n', n ≤ n' → Post' (.inl v) h' n' → SW SR M d (bc - bc') (bs - bs') (pc + 3) lv (v.toList ++ st) h' n' Post) : SW SR M d bc bs pc lv (as.reverse ++ .ref b :: st) h n Post := by
  intro G p l e R s m args below meth c A ad0 n0 Q hc hr he H locs cells slots ls ad hm hl hx hbc hbs
  obtain ⟨hx1, hb9, hr1, hml1, hown1, hts1, hlk1, htb1, hlt1, hin1, hK1, hN1, hSR1, hAO1, hC1, hA1⟩ := id hc
  have hbn : b < n := hl.2.2 (.ref b) (List.mem_append_right _ List.mem_cons_self) b rfl
  have has : ∀ v ∈ Value.ref b :: as, clV n v := fun v hv => (List.mem_cons.mp hv).elim (fun q => by rw [q]; exact hl.2.2 _ (List.mem_append_right _ List.mem_cons_self)) (fun q => hl.2.2 v (List.mem_append_left _ (List.mem_reverse.mpr q)))
  have hl9 : LM ad M.2.2.1 n lv st ls := hl.stk (fun v hv => hl.2.2 v (List.mem_append_right _ (List.mem_cons_of_mem _ hv)))
  have hMet := hM l hlt1 G ad H.size has
  have hcw : cwM M' = Cond.code M'.1 M'.2.1 M'.2.2.1 M'.2.2.2.1 := by unfold cwM; rw [if_pos hM0]
  have hlen9 : (as.map (em ad)).length = as.length := List.length_map ..
  refine run_go hc hr he hm hl9 hx hbc hbs hb1 hb2 (a := ((Value.ref (ad b) :: as.map (em ad))).toArray) ?_ kk kx
  refine vx_runU (Ts := GT) (own := M.1.cls) (C := CN ci) (owner := owner) (x := x) (cc := M.2.1) (nL := M.2.2.1) (bytes := M'.2.1) (maxL := M'.2.2.1) (ret := M'.2.2.2.1) (As := as.map (em ad)) ⟨hx1, hb9, hml1, hown1, hts1⟩ hMet
    (va_cwO (ws' := GT) as.length hts1 (fun w hw => ?_) (by rw [← hcw]; rfl) rfl rfl hw8 ⟨hmh.1, hmh.2, hpar⟩ (rm_ok hr hd' hmx)) ⟨picU_blind, recv_at hc hm hb hbn, fun U hU hW => ⟨rfl, picU_at hc hm hU hW⟩⟩ rfl hlen9 hl.1.1 stk_map (by show 2 * 0 + ((st.map (em ad)).map fun v => v.category).sum ≤ 8; rw [cat_map]; omega) hdg ⟨by omega, by omega⟩
  unfold va_wsO at hw
  simp only [List.cons_append, List.nil_append, List.mem_cons] at hw
  rcases hw with rfl | rfl | rfl | rfl | rfl | rfl | hw
  · exact ⟨hw1, good_of_word (GT_good _ hw1)⟩
  · exact ⟨hw6, good_of_word (GT_good _ hw6)⟩
  · exact ⟨hw7, good_of_word (GT_good _ hw7)⟩
  · exact ⟨hw3, good_of_word (GT_good _ hw3)⟩
  · exact ⟨hw2, good_of_word (GT_good _ hw2)⟩
  · exact ⟨hw4, good_of_word (GT_good _ hw4)⟩
  · exact wsM_GT hw5 w hw
theorem sw_ldcI {v : Int32} {i : Nat} (hp : pc + 2 = pc') (hdg : decode M.2.1 pc = .ok (.ldc i, 2)) (hw : Cond.constant M.1.cls i v ∈ GT) (k : SW SR M d bc bs pc' lv (.int v :: st) h n Post) : SW SR M d bc bs pc lv st h n Post := by
  subst hp
  intro G p l e R s m args below meth c A ad0 n0 Q hc hr he H locs cells slots ls ad hm hl hx hbc hbs
  obtain ⟨hx1, hb9, hr1, hml1, hown1, hts1, -⟩ := id hc
  exact lv_ldc hx1 hb9 hown1 (hts1 _ hw) hdg (k G p l e R s m args below meth c A ad0 n0 Q hc hr he H locs cells slots ls ad hm (hl.stk (clc hl.2.2 clV_int)) hx hbc hbs)
/-- all of an array of bytes are bytes -/
def bfit (f : Nat → Int32) : Prop := ∀ i, fits .byte (.int (f i)) = true
/-- System.arraycopy of bytes -/
theorem sw_copyB {a b sp dp k L0 L1 : Nat} {f g : Nat → Int32} {xs xd xk : Int32} (hp : pc + 3 = pc') (hdg : decode M.2.1 pc = .ok (.invokestatic idx, 3)) (hw1 : Cond.methodLink M.1.cls idx arraycopyName ∈ GT) (hw2 : Cond.native arraycopyName ∈ GT) (hw3 : Cond.static arraycopyName ∈ GT) (hw4 : Cond.initialized "java/lang/System" ∈ GT)
    (hh0 : h b = .inl (2, L0, .inl f)) (hh1 : h a = .inl (2, L1, .inl g)) (ha : nC ≤ a) (hf : bfit f) (hL0 : L0 < 2 ^ 31) (hL1 : L1 < 2 ^ 31) (e1 : xs = nI sp) (e2 : xd = nI dp) (e3 : xk = nI k) (h4 : sp + k ≤ L0) (h5 : dp + k ≤ L1) (hst : (st.map fun v => v.category).sum ≤ 8)
    (kk : SW SR M d bc bs pc' lv st (up h a (.inl (2, L1, .inl (va_cpy f g sp dp k)))) n Post) : SW SR M d bc bs pc lv (.int xk :: .int xd :: .ref a :: .int xs :: .ref b :: st) h n Post := by
  subst hp e1 e2 e3
  intro G p l e R s m args below meth c A ad0 n0 Q hc hr he H locs cells slots ls ad hm hl hx hbc hbs
  have hi : a < n := hl.2.2 _ (List.mem_cons_of_mem _ (List.mem_cons_of_mem _ List.mem_cons_self)) a rfl
  have hib : b < n := hl.2.2 _ (List.mem_cons_of_mem _ (List.mem_cons_of_mem _ (List.mem_cons_of_mem _ (List.mem_cons_of_mem _ List.mem_cons_self)))) b rfl
  obtain ⟨hx1, hb1, hr1, hml1, hown1, hts1, hlk1, htb1, hlt1, hin1, hK1, hN1, hSR1, hAO1, hC1, hA1⟩ := id hc
  have c1 : (nI sp).toNatClampNeg = sp := nI_clamp (by omega)
  have c2 : (nI dp).toNatClampNeg = dp := nI_clamp (by omega)
  have c3 : (nI k).toNatClampNeg = k := nI_clamp (by omega)
  have e0 : (wsH G ad h n)[a - nC]? = some (ad a, .inl (G.2.1 2, L1, .inl g)) := by
    have h9 := wsH_get (G := G) (ad := ad) (h := h) ha hi
    rw [hh1] at h9
    exact h9
  have hr1' := hr.1
  have hr2' := hr.2
  have hn9 : nativeFrameWords "java/lang/System" "arraycopy" 5 ≤ 60 := by decide +kernel
  have hcat : ((st.map (em ad)).map fun v => v.category).sum ≤ 8 := by rw [cat_map]; exact hst
  have go : ∀ (H1 : Heap) (locs1 : List Loc), va_P G.1 vwCl ((wsH G ad h n).set (a - nC) (ad a, .inl (G.2.1 2, L1, .inl (va_cpy f g sp dp k)))) H1 → va_D A ((wsH G ad h n).set (a - nC) (ad a, .inl (G.2.1 2, L1, .inl (va_cpy f g sp dp k)))) → va_S A s.heap H1 locs1 →
      W p l e R s m args below meth c H1 locs1 cells slots Q (F0 m (pc + 3) ls (st.map (em ad))) := fun H1 locs1 hP hD hS =>
    kk G p l e R s m args below meth c A ad0 n0 Q hc hr he H1 locs1 cells slots ls ad (hm.put (e := .inl (2, L1, .inl (va_cpy f g sp dp k))) ha hi trivial hP hD hS) (hl.stk (cl1 (cl2 (cl2 hl.2.2)))) hx hbc hbs
  by_cases q : nC ≤ b
  · have e9 : (wsH G ad h n)[b - nC]? = some (ad b, .inl (G.2.1 2, L0, .inl f)) := by
      have h9 := wsH_get (G := G) (ad := ad) (h := h) q hib
      rw [hh0] at h9
      exact h9
    refine va_copyi hx1 hb1 (hml1.trans hl.1.1.symm) hown1 (hts1 _ hw1) (hts1 _ hw2) (hts1 _ hw3) (hts1 _ hw4) hK1 hm.1 hm.2.1 hm.2.2.1 _ _ 2 2 e9 e0 (tysAt (by decide +kernel)) (tysAt (by decide +kernel)) (by decide +kernel) (nI_pos (by omega)) (nI_pos (by omega)) (nI_pos (by omega)) (by rw [c1, c3]; exact h4) (by rw [c2, c3]; exact h5) (fun i _ => hf _) (by omega) (by omega) hdg (fun H1 locs1 hP hD hS => ?_)
    rw [c1, c2, c3] at hP hD
    exact go H1 locs1 hP hD hS
  · have q1 : b < nC := by omega
    obtain ⟨d1, d2, -⟩ := hm.2.2.2.2.2 b q1
    have c5 := hC1.2.1 b 2 L0 f q1 (by rw [← d1]; exact hh0) (by decide +kernel)
    rw [← d2] at c5
    refine vk_copyt hx1 hb1 (hml1.trans hl.1.1.symm) hown1 (hts1 _ hw1) (hts1 _ hw2) (hts1 _ hw3) (hts1 _ hw4) hK1 hm.1 hm.2.1 hm.2.2.1 c5 _ 2 e0 (tysAt (by decide +kernel)) (nI_pos (by omega)) (nI_pos (by omega)) (nI_pos (by omega)) (by rw [c1, c3]; exact h4) (by rw [c2, c3]; exact h5) (fun i _ => hf _) (by omega) (by omega) hdg (fun H1 locs1 hP hD hS => ?_)
    rw [c1, c2, c3] at hP hD
    exact go H1 locs1 hP hD hS
/-- clone of bytes -/
theorem sw_cloneB {b L0 : Nat} {f : Nat → Int32} (hp : pc + 3 = pc') (hdg : decode M.2.1 pc = .ok (.invokevirtual idx, 3)) (hw1 : Cond.methodLink M.1.cls idx ⟨"[B", "clone", "()Ljava/lang/Object;"⟩ ∈ GT) (hw2 : Cond.sameMethod "[B" "java/lang/Object" "clone" "()Ljava/lang/Object;" ∈ GT) (hw3 : Cond.native ⟨"java/lang/Object", "clone", "()Ljava/lang/Object;"⟩ ∈ GT) (hw4 : Cond.instanceMethod ⟨"java/lang/Object", "clone", "()Ljava/lang/Object;"⟩ ∈ GT)
    (hw5 : Cond.selects "[B" ⟨"[B", "clone", "()Ljava/lang/Object;"⟩ ⟨"java/lang/Object", "clone", "()Ljava/lang/Object;"⟩ ∈ GT) (hw6 : Cond.castable "[B" "java/lang/Cloneable" ∈ NW) (hh0 : h b = .inl (2, L0, .inl f)) (ha : nC ≤ b) (hf : bfit f) (hst : (st.map fun v => v.category).sum ≤ 8) (h1 : 1 ≤ bc) (h2 : L0 ≤ bs)
    (kk : SW SR M d (bc - 1) (bs - L0) pc' lv (.ref n :: st) (up h n (.inl (2, L0, .inl f))) (n + 1) Post) : SW SR M d bc bs pc lv (.ref b :: st) h n Post := by
  subst hp
  intro G p l e R s m args below meth c A ad0 n0 Q hc hr he H locs cells slots ls ad hm hl hx hbc hbs
  have hi : b < n := hl.2.2 _ List.mem_cons_self b rfl
  obtain ⟨hx1, hb1, hr1, hml1, hown1, hts1, hlk1, htb1, hlt1, hin1, hK1, hN1, hSR1, hAO1, hC1, hA1⟩ := id hc
  have e0 : (wsH G ad h n)[b - nC]? = some (ad b, .inl (G.2.1 2, L0, .inl f)) := by
    have h9 := wsH_get (G := G) (ad := ad) (h := h) ha hi
    rw [hh0] at h9
    exact h9
  have hr1' := hr.1
  have hr2' := hr.2
  have hcat : ((st.map (em ad)).map fun v => v.category).sum ≤ 8 := by rw [cat_map]; exact hst
  have hnm : s.vm.findClass "[B" = some (G.2.1 2) := (hK1.2 2 _ (tysAt (by decide +kernel))).2
  refine va_clone hx1 hb1 (hml1.trans hl.1.1.symm) hown1 (hts1 _ hw1) (hts1 _ hw2) (hts1 _ hw3) (hts1 _ hw4) (hts1 _ hw5) (hN1 _ hw6) hK1 hm.1 hm.2.1 hm.2.2.1 hA1 _ 2 e0 (tysAt (by decide +kernel)) hnm (fun i v hv => ?_) (by omega) (by omega) (by omega) (by show slots + L0 ≤ _; omega) hdg (fun q H1 a1 a2 a3 a4 => ?_)
  · have hs9 : (vp_cell (G.2.1 2) (L0, .inl f)).slots.size = L0 := arrV_size _ _ _
    have hi9 : i < L0 := hs9 ▸ (Array.getElem?_eq_some_iff.mp hv).1
    have := arrV_read (G.2.1 2) (fun j => .int (f j)) hi9
    rw [show (vp_cell (G.2.1 2) (L0, .inl f)) = arrV (G.2.1 2) L0 (fun j => .int (f j)) from rfl, this] at hv
    cases hv
    exact hf i
  · have hl8 : LM ad M.2.2.1 n lv st ls := hl.stk (cl1 hl.2.2)
    have hl9 : LM (up ad n q) M.2.2.1 (n + 1) lv (.ref n :: st) ls := (hl8.new (q := q)).stk (clc (hl8.new (q := q)).2.2 clV_new)
    have k9 := kk G p l e R s m args below meth c A ad0 n0 Q hc hr he H1 locs (cells + 1) (slots + L0) ls (up ad n q) (hm.new (e := .inl (2, L0, .inl f)) trivial a2 a3 a4) hl9 hx.new (by omega) (by omega)
    rw [List.map_cons, em_new hl8.2.2] at k9
    have e1 : em (up ad n q) (.ref n) = .ref q := congrArg Value.ref up_s
    rw [e1] at k9
    exact k9
/-- a cast of bytes to bytes -/
theorem sw_castB {b L0 : Nat} {f : Nat → Int32} (hp : pc + 3 = pc') (hdg : decode M.2.1 pc = .ok (.checkcast idx, 3)) (hw1 : Cond.classLink M.1.cls idx "[B" ∈ GT) (hh0 : h b = .inl (2, L0, .inl f)) (ha : nC ≤ b) (kk : SW SR M d bc bs pc' lv (.ref b :: st) h n Post) : SW SR M d bc bs pc lv (.ref b :: st) h n Post := by
  subst hp
  intro G p l e R s m args below meth c A ad0 n0 Q hc hr he H locs cells slots ls ad hm hl hx hbc hbs
  have hi : b < n := hl.2.2 _ List.mem_cons_self b rfl
  obtain ⟨hx1, hb1, hr1, hml1, hown1, hts1, hlk1, htb1, hlt1, hin1, hK1, hN1, hSR1, hAO1, hC1, hA1⟩ := id hc
  have e0 : (wsH G ad h n)[b - nC]? = some (ad b, .inl (G.2.1 2, L0, .inl f)) := by
    have h9 := wsH_get (G := G) (ad := ad) (h := h) ha hi
    rw [hh0] at h9
    exact h9
  exact va_castA hx1 hb1 hown1 (hts1 _ hw1) hm.1 _ e0 (hK1.2 2 _ (tysAt (by decide +kernel))).2 hdg (kk G p l e R s m args below meth c A ad0 n0 Q hc hr he H locs cells slots ls ad hm hl hx hbc hbs)
end
