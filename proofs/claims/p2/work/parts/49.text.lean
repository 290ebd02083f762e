section
/-! 49.jdk -/
/-! calls of private methods of a class above, of a method that overrides; bytes copied, cloned -/
theorem selects_priv {C : String} {y z : MethodName} {s : State} {args : Array Value} {n : Nat} (hy : y.cls ≠ "java/lang/invoke/MethodHandle" ∧ y.cls ≠ "java/lang/invoke/VarHandle") (hins : (Cond.instantiable C n).before args s = true)
    (hpriv : (Cond.privateMethod y).before args s = true) (hinst : (Cond.instanceMethod y).before args s = true) (hz : (Cond.selects C z z).before args s = true) (hzc : z.cls = y.cls) : (Cond.selects C y y).before args s = true := by
  obtain ⟨c, k, hc, hk, -, hniab, -, -⟩ := Cond.instantiable_spec hins
  obtain ⟨mk, methM, hnamed, hmethM, -, -⟩ := Cond.instanceMethod_spec hinst
  have hfound : s.methodFound? y.cls y.name y.desc = some mk := State.methodFound?_of_named hnamed hy
  obtain ⟨c2, r2, m2, -, -, q3, -, kP, hkP, hkPi⟩ := Cond.selects_spec hz
  have hcls : m2.cls = mk.cls := Option.some.inj ((findClass_of_methodNamed q3).symm.trans ((congrArg s.vm.findClass hzc).trans (findClass_of_methodNamed hnamed)))
  have hsel : selectMethod {} s.vm c mk = .method mk := selectMethod_private hmethM (Cond.privateMethod_at hpriv mk methM hnamed hmethM)
  rw [hcls] at hkP
  simp only [Cond.before, Cond.holds, Cond.value, hc, hfound, hnamed, hsel, hkP]
  simp; exact hkPi
section
variable {SR : SRT} {M M' : MI} {d d' bc bs bc' bs' pc pc' idx tgt n : Nat} {lv : List (Nat × Value)} {st as : List Value} {h : AH} {Post Post' : ARes → AH → Nat → Prop}
/-- a method that overrides the named one -/
theorem sw_callO {b ci : Nat} {fs : List Value} {x : MethodName} {owner : String} (hdg : decode M.2.1 pc = .ok (.invokevirtual idx, 3)) (hw1 : Cond.methodLink M.1.cls idx x ∈ GT) (hw6 : Cond.sameMethod x.cls owner x.name x.desc ∈ GT) (hw7 : Cond.instanceMethod ⟨owner, x.name, x.desc⟩ ∈ GT) {b0 : ByteArray} {m0 : Nat} {r0 : Option FieldType} (hw8 : Cond.code ⟨owner, x.name, x.desc⟩ b0 m0 r0 ∈ GT) (hw2 : Cond.instanceMethod M'.1 ∈ GT) (hw3 : Cond.selects (CN ci) x M'.1 ∈ GT) (hw4 : Cond.initialized M'.1.cls ∈ GT) (hw5 : cwM M' ∈ GT) (hmh : owner ≠ "java/lang/invoke/MethodHandle" ∧ owner ≠ "java/lang/invoke/VarHandle") (hpar : (parseMethodDescriptor x.desc).map (fun d => d.parameters.length) = some as.length) (hM0 : M'.2.2.2.2 = []) (hd' : d' < d) (hmx : M'.2.2.1 ≤ 81)
    (hM : SM SR M' d' bc' bs' (.ref b :: as) h n Post') (hb : h b = .inr (ci, fs)) (hst : (st.map fun v => v.category).sum ≤ 8) (hb1 : bc' ≤ bc) (hb2 : bs' ≤ bs)
    (kx : ∀ E h' n', n ≤ n' → Post' (.inr E) h' n' → SWX SR M d (bc - bc') (bs - bs') pc lv E h' n' Post) (kk : ∀ v h' n', n ≤ n' → Post' (.inl v) h' n' → SW SR M d (bc - bc') (bs - bs') (pc + 3) lv (v.toList ++ st) h' n' Post) : SW SR M d bc bs pc lv (as.reverse ++ .ref b :: st) h n Post := by
  intro G p l e R s m args below meth c A ad0 n0 Q hc hr he H locs cells slots ls ad hm hl hx hbc hbs
  obtain ⟨hx1, hb9, hr1, hml1, hown1, hts1, hlk1, htb1, hlt1, hin1, hK1, hN1, hSR1, hAO1, hC1, hA1⟩ := id hc
  have hbn : b < n := hl.2.2 (.ref b) (List.mem_append_right _ List.mem_cons_self) b rfl
  have has : ∀ v ∈ Value.ref b :: as, clV n v := fun v hv => (List.mem_cons.mp hv).elim (fun q => by rw [q]; exact hl.2.2 _ (List.mem_append_right _ List.mem_cons_self)) (fun q => hl.2.2 v (List.mem_append_left _ (List.mem_reverse.mpr q)))
  have hl9 : LM ad M.2.2.1 n lv st ls := hl.stk (fun v hv => hl.2.2 v (List.mem_append_right _ (List.mem_cons_of_mem _ hv)))
  have hMet := hM l hlt1 G ad H.size has
  have hcw : cwM M' = Cond.code M'.1 M'.2.1 M'.2.2.1 M'.2.2.2.1 := by unfold cwM; rw [if_pos hM0]
  have hlen9 : (as.map (em ad)).length = as.length := List.length_map ..
  refine run_go hc hr he hm hl9 hx hbc hbs hb1 hb2 (a := ((Value.ref (ad b) :: as.map (em ad))).toArray) ?_ kk kx
  refine vx_runU (Ts := GT) (own := M.1.cls) (C := CN ci) (owner := owner) (x := x) (cc := M.2.1) (nL := M.2.2.1) (bytes := M'.2.1) (maxL := M'.2.2.1) (ret := M'.2.2.2.1) (As := as.map (em ad)) ⟨hx1, hb9, hml1, hown1, hts1⟩ hMet
    (va_cwO (ws' := GT) as.length hts1 (fun w hw => ?_) (by rw [← hcw]; rfl) rfl rfl hw8 ⟨hmh.1, hmh.2, hpar⟩ (rm_ok hr hd' hmx)) ⟨picU_blind, recv_at hc hm hb hbn, fun U hU hW => ⟨rfl, picU_at hc hm hU hW⟩⟩ rfl hlen9 hl.1.1 stk_map (by show 2 * 0 + ((st.map (em ad)).map fun v => v.category).sum ≤ 8; rw [cat_map]; omega) hdg ⟨by omega, by omega⟩
  unfold va_wsO at hw
  simp only [List.cons_append, List.nil_append, List.mem_cons] at hw
  rcases hw with rfl | rfl | rfl | rfl | rfl | rfl | hw
  · exact ⟨hw1, good_of_word (GT_good _ hw1)⟩
  · exact ⟨hw6, good_of_word (GT_good _ hw6)⟩
  · exact ⟨hw7, good_of_word (GT_good _ hw7)⟩
  · exact ⟨hw3, good_of_word (GT_good _ hw3)⟩
  · exact ⟨hw2, good_of_word (GT_good _ hw2)⟩
  · exact ⟨hw4, good_of_word (GT_good _ hw4)⟩
  · exact wsM_GT hw5 w hw
theorem sw_ldcI {v : Int32} {i : Nat} (hp : pc + 2 = pc') (hdg : decode M.2.1 pc = .ok (.ldc i, 2)) (hw : Cond.constant M.1.cls i v ∈ GT) (k : SW SR M d bc bs pc' lv (.int v :: st) h n Post) : SW SR M d bc bs pc lv st h n Post := by
  subst hp
  intro G p l e R s m args below meth c A ad0 n0 Q hc hr he H locs cells slots ls ad hm hl hx hbc hbs
  obtain ⟨hx1, hb9, hr1, hml1, hown1, hts1, -⟩ := id hc
  exact lv_ldc hx1 hb9 hown1 (hts1 _ hw) hdg (k G p l e R s m args below meth c A ad0 n0 Q hc hr he H locs cells slots ls ad hm (hl.stk (clc hl.2.2 clV_int)) hx hbc hbs)
/-- all of an array of bytes are bytes -/
def bfit (f : Nat → Int32) : Prop := ∀ i, fits .byte (.int (f i)) = true
/-- System.arraycopy of bytes -/
theorem sw_copyB {a b sp dp k L0 L1 : Nat} {f g : Nat → Int32} {xs xd xk : Int32} (hp : pc + 3 = pc') (hdg : decode M.2.1 pc = .ok (.invokestatic idx, 3)) (hw1 : Cond.methodLink M.1.cls idx arraycopyName ∈ GT) (hw2 : Cond.native arraycopyName ∈ GT) (hw3 : Cond.static arraycopyName ∈ GT) (hw4 : Cond.initialized "java/lang/System" ∈ GT)
    (hh0 : h b = .inl (2, L0, .inl f)) (hh1 : h a = .inl (2, L1, .inl g)) (ha : nC ≤ a) (hf : bfit f) (hL0 : L0 < 2 ^ 31) (hL1 : L1 < 2 ^ 31) (e1 : xs = nI sp) (e2 : xd = nI dp) (e3 : xk = nI k) (h4 : sp + k ≤ L0) (h5 : dp + k ≤ L1) (hst : (st.map fun v => v.category).sum ≤ 8)
    (kk : SW SR M d bc bs pc' lv st (up h a (.inl (2, L1, .inl (va_cpy f g sp dp k)))) n Post) : SW SR M d bc bs pc lv (.int xk :: .int xd :: .ref a :: .int xs :: .ref b :: st) h n Post := by
  subst hp e1 e2 e3
  intro G p l e R s m args below meth c A ad0 n0 Q hc hr he H locs cells slots ls ad hm hl hx hbc hbs
  have hi : a < n := hl.2.2 _ (List.mem_cons_of_mem _ (List.mem_cons_of_mem _ List.mem_cons_self)) a rfl
  have hib : b < n := hl.2.2 _ (List.mem_cons_of_mem _ (List.mem_cons_of_mem _ (List.mem_cons_of_mem _ (List.mem_cons_of_mem _ List.mem_cons_self)))) b rfl
  obtain ⟨hx1, hb1, hr1, hml1, hown1, hts1, hlk1, htb1, hlt1, hin1, hK1, hN1, hSR1, hAO1, hC1, hA1⟩ := id hc
  have c1 : (nI sp).toNatClampNeg = sp := nI_clamp (by omega)
  have c2 : (nI dp).toNatClampNeg = dp := nI_clamp (by omega)
  have c3 : (nI k).toNatClampNeg = k := nI_clamp (by omega)
  have e0 : (wsH G ad h n)[a - nC]? = some (ad a, .inl (G.2.1 2, L1, .inl g)) := by
    have h9 := wsH_get (G := G) (ad := ad) (h := h) ha hi
    rw [hh1] at h9
    exact h9
  have hr1' := hr.1
  have hr2' := hr.2
  have hn9 : nativeFrameWords "java/lang/System" "arraycopy" 5 ≤ 60 := by decide +kernel
  have hcat : ((st.map (em ad)).map fun v => v.category).sum ≤ 8 := by rw [cat_map]; exact hst
  have go : ∀ (H1 : Heap) (locs1 : List Loc), va_P G.1 vwCl ((wsH G ad h n).set (a - nC) (ad a, .inl (G.2.1 2, L1, .inl (va_cpy f g sp dp k)))) H1 → va_D A ((wsH G ad h n).set (a - nC) (ad a, .inl (G.2.1 2, L1, .inl (va_cpy f g sp dp k)))) → va_S A s.heap H1 locs1 →
      W p l e R s m args below meth c H1 locs1 cells slots Q (F0 m (pc + 3) ls (st.map (em ad))) := fun H1 locs1 hP hD hS =>
    kk G p l e R s m args below meth c A ad0 n0 Q hc hr he H1 locs1 cells slots ls ad (hm.put (e := .inl (2, L1, .inl (va_cpy f g sp dp k))) ha hi trivial hP hD hS) (hl.stk (cl1 (cl2 (cl2 hl.2.2)))) hx hbc hbs
  by_cases q : nC ≤ b
  · have e9 : (wsH G ad h n)[b - nC]? = some (ad b, .inl (G.2.1 2, L0, .inl f)) := by
      have h9 := wsH_get (G := G) (ad := ad) (h := h) q hib
      rw [hh0] at h9
      exact h9
    refine va_copyi hx1 hb1 (hml1.trans hl.1.1.symm) hown1 (hts1 _ hw1) (hts1 _ hw2) (hts1 _ hw3) (hts1 _ hw4) hK1 hm.1 hm.2.1 hm.2.2.1 _ _ 2 2 e9 e0 (tysAt (by decide +kernel)) (tysAt (by decide +kernel)) (by decide +kernel) (nI_pos (by omega)) (nI_pos (by omega)) (nI_pos (by omega)) (by rw [c1, c3]; exact h4) (by rw [c2, c3]; exact h5) (fun i _ => hf _) (by omega) (by omega) hdg (fun H1 locs1 hP hD hS => ?_)
    rw [c1, c2, c3] at hP hD
    exact go H1 locs1 hP hD hS
  · have q1 : b < nC := by omega
    obtain ⟨d1, d2, -⟩ := hm.2.2.2.2.2 b q1
    have c5 := hC1.2.1 b 2 L0 f q1 (by rw [← d1]; exact hh0) (by decide +kernel)
    rw [← d2] at c5
    refine vk_copyt hx1 hb1 (hml1.trans hl.1.1.symm) hown1 (hts1 _ hw1) (hts1 _ hw2) (hts1 _ hw3) (hts1 _ hw4) hK1 hm.1 hm.2.1 hm.2.2.1 c5 _ 2 e0 (tysAt (by decide +kernel)) (nI_pos (by omega)) (nI_pos (by omega)) (nI_pos (by omega)) (by rw [c1, c3]; exact h4) (by rw [c2, c3]; exact h5) (fun i _ => hf _) (by omega) (by omega) hdg (fun H1 locs1 hP hD hS => ?_)
    rw [c1, c2, c3] at hP hD
    exact go H1 locs1 hP hD hS
/-- clone of bytes -/
theorem sw_cloneB {b L0 : Nat} {f : Nat → Int32} (hp : pc + 3 = pc') (hdg : decode M.2.1 pc = .ok (.invokevirtual idx, 3)) (hw1 : Cond.methodLink M.1.cls idx ⟨"[B", "clone", "()Ljava/lang/Object;"⟩ ∈ GT) (hw2 : Cond.sameMethod "[B" "java/lang/Object" "clone" "()Ljava/lang/Object;" ∈ GT) (hw3 : Cond.native ⟨"java/lang/Object", "clone", "()Ljava/lang/Object;"⟩ ∈ GT) (hw4 : Cond.instanceMethod ⟨"java/lang/Object", "clone", "()Ljava/lang/Object;"⟩ ∈ GT)
    (hw5 : Cond.selects "[B" ⟨"[B", "clone", "()Ljava/lang/Object;"⟩ ⟨"java/lang/Object", "clone", "()Ljava/lang/Object;"⟩ ∈ GT) (hw6 : Cond.castable "[B" "java/lang/Cloneable" ∈ NW) (hh0 : h b = .inl (2, L0, .inl f)) (ha : nC ≤ b) (hf : bfit f) (hst : (st.map fun v => v.category).sum ≤ 8) (h1 : 1 ≤ bc) (h2 : L0 ≤ bs)
    (kk : SW SR M d (bc - 1) (bs - L0) pc' lv (.ref n :: st) (up h n (.inl (2, L0, .inl f))) (n + 1) Post) : SW SR M d bc bs pc lv (.ref b :: st) h n Post := by
  subst hp
  intro G p l e R s m args below meth c A ad0 n0 Q hc hr he H locs cells slots ls ad hm hl hx hbc hbs
  have hi : b < n := hl.2.2 _ List.mem_cons_self b rfl
  obtain ⟨hx1, hb1, hr1, hml1, hown1, hts1, hlk1, htb1, hlt1, hin1, hK1, hN1, hSR1, hAO1, hC1, hA1⟩ := id hc
  have e0 : (wsH G ad h n)[b - nC]? = some (ad b, .inl (G.2.1 2, L0, .inl f)) := by
    have h9 := wsH_get (G := G) (ad := ad) (h := h) ha hi
    rw [hh0] at h9
    exact h9
  have hr1' := hr.1
  have hr2' := hr.2
  have hcat : ((st.map (em ad)).map fun v => v.category).sum ≤ 8 := by rw [cat_map]; exact hst
  have hnm : s.vm.findClass "[B" = some (G.2.1 2) := (hK1.2 2 _ (tysAt (by decide +kernel))).2
  refine va_clone hx1 hb1 (hml1.trans hl.1.1.symm) hown1 (hts1 _ hw1) (hts1 _ hw2) (hts1 _ hw3) (hts1 _ hw4) (hts1 _ hw5) (hN1 _ hw6) hK1 hm.1 hm.2.1 hm.2.2.1 hA1 _ 2 e0 (tysAt (by decide +kernel)) hnm (fun i v hv => ?_) (by omega) (by omega) (by omega) (by show slots + L0 ≤ _; omega) hdg (fun q H1 a1 a2 a3 a4 => ?_)
  · have hs9 : (vp_cell (G.2.1 2) (L0, .inl f)).slots.size = L0 := arrV_size _ _ _
    have hi9 : i < L0 := hs9 ▸ (Array.getElem?_eq_some_iff.mp hv).1
    have := arrV_read (G.2.1 2) (fun j => .int (f j)) hi9
    rw [show (vp_cell (G.2.1 2) (L0, .inl f)) = arrV (G.2.1 2) L0 (fun j => .int (f j)) from rfl, this] at hv
    cases hv
    exact hf i
  · have hl8 : LM ad M.2.2.1 n lv st ls := hl.stk (cl1 hl.2.2)
    have hl9 : LM (up ad n q) M.2.2.1 (n + 1) lv (.ref n :: st) ls := (hl8.new (q := q)).stk (clc (hl8.new (q := q)).2.2 clV_new)
    have k9 := kk G p l e R s m args below meth c A ad0 n0 Q hc hr he H1 locs (cells + 1) (slots + L0) ls (up ad n q) (hm.new (e := .inl (2, L0, .inl f)) trivial a2 a3 a4) hl9 hx.new (by omega) (by omega)
    rw [List.map_cons, em_new hl8.2.2] at k9
    have e1 : em (up ad n q) (.ref n) = .ref q := congrArg Value.ref up_s
    rw [e1] at k9
    exact k9
/-- a cast of bytes to bytes -/
theorem sw_castB {b L0 : Nat} {f : Nat → Int32} (hp : pc + 3 = pc') (hdg : decode M.2.1 pc = .ok (.checkcast idx, 3)) (hw1 : Cond.classLink M.1.cls idx "[B" ∈ GT) (hh0 : h b = .inl (2, L0, .inl f)) (ha : nC ≤ b) (kk : SW SR M d bc bs pc' lv (.ref b :: st) h n Post) : SW SR M d bc bs pc lv (.ref b :: st) h n Post := by
  subst hp
  intro G p l e R s m args below meth c A ad0 n0 Q hc hr he H locs cells slots ls ad hm hl hx hbc hbs
  have hi : b < n := hl.2.2 _ List.mem_cons_self b rfl
  obtain ⟨hx1, hb1, hr1, hml1, hown1, hts1, hlk1, htb1, hlt1, hin1, hK1, hN1, hSR1, hAO1, hC1, hA1⟩ := id hc
  have e0 : (wsH G ad h n)[b - nC]? = some (ad b, .inl (G.2.1 2, L0, .inl f)) := by
    have h9 := wsH_get (G := G) (ad := ad) (h := h) ha hi
    rw [hh0] at h9
    exact h9
  exact va_castA hx1 hb1 hown1 (hts1 _ hw1) hm.1 _ e0 (hK1.2 2 _ (tysAt (by decide +kernel))).2 hdg (kk G p l e R s m args below meth c A ad0 n0 Q hc hr he H locs cells slots ls ad hm hl hx hbc hbs)
end
end
section
/-! 50.jdk -/
/-! StringBuilder and String: counts alone -/
theorem shr0 (x : Int32) : x >>> ((0 : Int32) &&& 31) = x := by rw [show (0 : Int32) &&& 31 = 0 by decide +kernel]; exact Int32.shiftRight_zero
theorem shl0 (x : Int32) : x <<< ((0 : Int32) &&& 31) = x := by rw [show (0 : Int32) &&& 31 = 0 by decide +kernel]; exact Int32.shiftLeft_zero
theorem maxN {a b : Nat} (ha : a < 2 ^ 31) (hb : b < 2 ^ 31) : maxI (nI a) (nI b) = nI (if a < b then b else a) := by
  unfold maxI
  by_cases q : a < b
  · rw [if_pos q, if_pos (nI_lt q hb)]
  · rw [if_neg q, if_neg (nI_nlt (by omega) ha)]
theorem minN {a b : Nat} (h : a ≤ b) (hb : b < 2 ^ 31) : minI (nI a) (nI b) = nI a := by
  unfold minI
  rw [if_neg (nI_nlt h hb)]
theorem minN2 {a b : Nat} (h : b ≤ a) (ha : a < 2 ^ 31) : minI (nI a) (nI b) = nI b := by
  unfold minI
  by_cases q : b < a
  · rw [if_pos (nI_lt q ha)]
  · rw [if_neg (nI_nlt (by omega) (by omega)), show a = b by omega]
theorem bfit0 : bfit (fun _ => 0) := fun _ => rfl
theorem bfit_cpy {f g : Nat → Int32} {s d n : Nat} (hf : bfit f) (hg : bfit g) : bfit (va_cpy f g s d n) := fun i => by
  unfold va_cpy
  split
  · exact hf _
  · exact hg _
theorem bfit_up {f : Nat → Int32} {i : Nat} {y : Int32} (hf : bfit f) : bfit (up f i (vp_nar .byte y)) := fun j => by
  unfold up
  split
  · rw [vp_nar_byte]; exact pk_fb y
  · exact hf j
/-- at b a StringBuilder of N letters, room for m exactly; it and its bytes lie from n0 on, below n -/
def SbF (h : AH) (n n0 b N m : Nat) : Prop := ∃ (a : Nat) (f : Nat → Int32) (fl : Int32), h b = .inr (1, [.ref a, .int 0, .int fl, .int (nI N)]) ∧ h a = .inl (2, m, .inl f) ∧ bfit f ∧ N ≤ m ∧ n0 ≤ a ∧ a < n ∧ n0 ≤ b ∧ b < n ∧ b ≠ a
theorem SbF.fr {h h' : AH} {n n' n0 b N m : Nat} (hS : SbF h n n0 b N m) (hF : ∀ i, i < n → h' i = h i) (hn : n ≤ n') : SbF h' n' n0 b N m := by
  obtain ⟨a, f, fl, h1, h2, h3, h4, h7, h8, h9, h10, h11⟩ := hS
  exact ⟨a, f, fl, (hF b h10).trans h1, (hF a h8).trans h2, h3, h4, h7, by omega, h9, by omega, h11⟩
theorem SbF.lt {h : AH} {n n0 b N m : Nat} (hS : SbF h n n0 b N m) : n0 ≤ b ∧ b < n := by
  obtain ⟨a, f, fl, h1, h2, h3, h4, h7, h8, h9, h10, h11⟩ := hS
  exact ⟨h9, h10⟩
theorem SbF.rm {h : AH} {n n0 b N m : Nat} (hS : SbF h n n0 b N m) : N ≤ m := by
  obtain ⟨a, f, fl, h1, h2, h3, h4, -⟩ := hS
  exact h4
/-- the room that it grows to; what growing costs -/
def capG (q m : Nat) : Nat := m + (if q - m < m + 2 then m + 2 else q - m)
def capN (m q : Nat) : Nat := if q ≤ m then m else capG q m
def grC (m q : Nat) : Nat := if q ≤ m then 0 else capG q m
/-- growing is paid for by the room that is still wanting -/
theorem pot {m q K : Nat} (hm : m ≤ K) (hq : 2 * q ≤ K) : grC m q + 2 * (K - capN m q) ≤ 2 * (K - m) ∧ capN m q ≤ K ∧ q ≤ capN m q ∧ m ≤ capN m q := by
  unfold grC capN capG
  split
  · omega
  · split <;> omega
theorem capN_s {m q : Nat} (h : q ≤ m) : capN m q = m := if_pos h
theorem grC_s {m q : Nat} (h : q ≤ m) : grC m q = 0 := if_pos h
/-- at t a String of L letters -/
def StF (h : AH) (n t L : Nat) : Prop := ∃ (v : Nat) (f : Nat → Int32) (r : List Value), h t = .inr (0, .ref v :: .int 0 :: r) ∧ h v = .inl (2, L, .inl f) ∧ bfit f ∧ t < n ∧ v < n
theorem StF.fr {h h' : AH} {n n' t L : Nat} (hS : StF h n t L) (hF : ∀ i, i < n → h' i = h i) (hn : n ≤ n') : StF h' n' t L := by
  obtain ⟨v, f, r, h1, h2, h3, h4, h5⟩ := hS
  exact ⟨v, f, r, (hF t h4).trans h1, (hF v h5).trans h2, h3, by omega, by omega⟩
/-- the same, where it may have grown -/
def SbE (h : AH) (n' n n1 n0 b N m : Nat) : Prop := ∃ (a : Nat) (f : Nat → Int32) (fl : Int32), h b = .inr (1, [.ref a, .int 0, .int fl, .int (nI N)]) ∧ h a = .inl (2, m, .inl f) ∧ bfit f ∧ N ≤ m ∧ n0 ≤ a ∧ a < n' ∧ n0 ≤ b ∧ b < n' ∧ b ≠ a ∧ (a < n1 ∨ n ≤ a)
def SEo (h : AH) (n n1 n0 b N m : Nat) (r : Option Value) : ARes → AH → Nat → Prop := fun r' h' n' => r' = .inl r ∧ n ≤ n' ∧ SbE h' n' n n1 n0 b N m ∧ ∀ i, i < n0 ∨ n1 ≤ i ∧ i < n → h' i = h i
theorem seo_k {A : Nat → AH → Option Value → Prop} {h : AH} {n n1 n0 b N m z : Nat} {r : Option Value} (k : ∀ h' n', n ≤ n' → SbE h' n' n n1 n0 b N m → (∀ i, i < n0 ∨ n1 ≤ i ∧ i < n → h' i = h i) → A n' h' r) : ∀ (v : Option Value) (h' : AH) (n' : Nat), z ≤ n' → SEo h n n1 n0 b N m r (.inl v) h' n' → A n' h' v := by
  rintro v h' n' - ⟨e, g1, g2, g3⟩
  cases e
  exact k h' n' g1 g2 g3
theorem seo_x {A : Prop} {h : AH} {n n1 n0 b N m : Nat} {r : Option Value} {E : String} {h' : AH} {n' : Nat} (z : SEo h n n1 n0 b N m r (.inr E) h' n') : A := by cases z.1
def SBo (h : AH) (n n1 n0 b N m : Nat) (r : Option Value) : ARes → AH → Nat → Prop := fun r' h' n' => r' = .inl r ∧ n ≤ n' ∧ SbF h' n' n0 b N m ∧ ∀ i, i < n0 ∨ n1 ≤ i ∧ i < n → h' i = h i
theorem sbo_k {A : Nat → AH → Option Value → Prop} {h : AH} {n n1 n0 b N m z : Nat} {r : Option Value} (k : ∀ h' n', n ≤ n' → SbF h' n' n0 b N m → (∀ i, i < n0 ∨ n1 ≤ i ∧ i < n → h' i = h i) → A n' h' r) : ∀ (v : Option Value) (h' : AH) (n' : Nat), z ≤ n' → SBo h n n1 n0 b N m r (.inl v) h' n' → A n' h' v := by
  rintro v h' n' - ⟨e, g1, g2, g3⟩
  cases e
  exact k h' n' g1 g2 g3
theorem sbo_x {A : Prop} {h : AH} {n n1 n0 b N m : Nat} {r : Option Value} {E : String} {h' : AH} {n' : Nat} (z : SBo h n n1 n0 b N m r (.inr E) h' n') : A := by cases z.1
/-- a String that was made behind n, or is a constant -/
def StN (h : AH) (n' n t L : Nat) : Prop := ∃ (v : Nat) (f : Nat → Int32) (r : List Value), h t = .inr (0, .ref v :: .int 0 :: r) ∧ h v = .inl (2, L, .inl f) ∧ bfit f ∧ (t < 100 ∨ n ≤ t) ∧ t < n' ∧ (v < 100 ∨ n ≤ v) ∧ v < n'
/-- a String that no growing StringBuilder touches -/
def StK (h : AH) (n n1 n0 t L : Nat) : Prop := ∃ (v : Nat) (f : Nat → Int32) (r : List Value), h t = .inr (0, .ref v :: .int 0 :: r) ∧ h v = .inl (2, L, .inl f) ∧ bfit f ∧ (t < n0 ∨ n1 ≤ t ∧ t < n) ∧ (v < n0 ∨ n1 ≤ v ∧ v < n)
theorem StN.st {h : AH} {n' n t L : Nat} (hS : StN h n' n t L) : StF h n' t L := by
  obtain ⟨v, f, r, h1, h2, h3, h4, h5, h6, h7⟩ := hS
  exact ⟨v, f, r, h1, h2, h3, h5, h7⟩
theorem StN.k {h : AH} {n n1 n0 t L : Nat} (hS : StN h n n1 t L) (h0 : 100 ≤ n0) : StK h n n1 n0 t L := by
  obtain ⟨v, f, r, h1, h2, h3, h4, h5, h6, h7⟩ := hS
  exact ⟨v, f, r, h1, h2, h3, by omega, by omega⟩
theorem StF.k {h : AH} {n n1 n0 t L : Nat} (hS : StF h n0 t L) : StK h n n1 n0 t L := by
  obtain ⟨v, f, r, h1, h2, h3, h4, h5⟩ := hS
  exact ⟨v, f, r, h1, h2, h3, Or.inl h4, Or.inl h5⟩
theorem StF.n {h : AH} {n n' t L : Nat} (hS : StF h 100 t L) (hn : 100 ≤ n') : StN h n' n t L := by
  obtain ⟨v, f, r, h1, h2, h3, h4, h5⟩ := hS
  exact ⟨v, f, r, h1, h2, h3, Or.inl h4, by omega, Or.inl h5, by omega⟩
/-- a new String -/
def SPo (h : AH) (n L : Nat) : ARes → AH → Nat → Prop := fun r' h' n' => n ≤ n' ∧ ∃ t, r' = .inl (some (.ref t)) ∧ StN h' n' n t L ∧ ∀ i, i < n → h' i = h i
theorem spo_k {A : Nat → AH → Option Value → Prop} {h : AH} {n L m : Nat} (k : ∀ h' n' t, n ≤ n' → StN h' n' n t L → (∀ i, i < n → h' i = h i) → A n' h' (some (.ref t))) : ∀ (v : Option Value) (h' : AH) (n' : Nat), m ≤ n' → SPo h n L (.inl v) h' n' → A n' h' v := by
  rintro v h' n' - ⟨g1, t, e, g2, g3⟩
  cases e
  exact k h' n' t g1 g2 g3
theorem spo_x {A : Prop} {h : AH} {n L : Nat} {E : String} {h' : AH} {n' : Nat} (z : SPo h n L (.inr E) h' n') : A := by
  obtain ⟨-, t, e, -⟩ := z
  cases e
/-- a new array of bytes -/
def NBo (h : AH) (n L : Nat) : ARes → AH → Nat → Prop := fun r' h' n' => r' = .inl (some (.ref n)) ∧ n' = n + 1 ∧ (∃ f, h' n = .inl (2, L, .inl f) ∧ bfit f) ∧ ∀ i, i ≠ n → h' i = h i
theorem nbo_k {A : Nat → AH → Option Value → Prop} {h : AH} {n L m : Nat} (k : ∀ h' f, h' n = .inl (2, L, .inl f) → bfit f → (∀ i, i ≠ n → h' i = h i) → A (n + 1) h' (some (.ref n))) : ∀ (v : Option Value) (h' : AH) (n' : Nat), m ≤ n' → NBo h n L (.inl v) h' n' → A n' h' v := by
  rintro v h' n' - ⟨e, rfl, ⟨f, g1, g2⟩, g3⟩
  cases e
  exact k h' f g1 g2 g3
theorem nbo_x {A : Prop} {h : AH} {n L : Nat} {E : String} {h' : AH} {n' : Nat} (z : NBo h n L (.inr E) h' n') : A := by cases z.1
/-- how many digits -/
def dgt (k : Nat) : Nat := if k < 10 then 1 else 2
theorem neg_le {k L : Nat} (hk : k < 100) (hL : L ≤ 100) : -nI k ≤ -nI L ↔ L ≤ k := by
  rw [Int32.le_iff_toInt_le]
  have e : ∀ j : Nat, j ≤ 100 → (-nI j).toInt = -(j : Int) := by
    intro j hj
    have h2 : (nI j).toInt = (j : Int) := nI_toInt (by omega)
    rw [Int32.toInt_neg, h2, Int.bmod_eq_of_le (by omega) (by omega)]
  rw [e k (by omega), e L hL]
  omega
theorem neg_neg' (x : Int32) : -(-x) = x := Int32.neg_neg
/-- the texts and the digits that the class and the model use -/
def TXT (h : AH) : Prop := (∃ f, h 6 = .inl (2, 100, .inl f)) ∧ (∃ f, h 7 = .inl (2, 100, .inl f)) ∧ StF h 100 48 0 ∧ StF h 100 50 1 ∧ StF h 100 52 1 ∧ StF h 100 54 1 ∧ StF h 100 40 1
theorem TXT.fr {h h' : AH} (hT : TXT h) (hF : ∀ i, i < 100 → h' i = h i) : TXT h' := by
  obtain ⟨⟨f, h1⟩, ⟨g, h2⟩, h3, h4, h5, h6, h7⟩ := hT
  exact ⟨⟨f, (hF 6 (by decide +kernel)).trans h1⟩, ⟨g, (hF 7 (by decide +kernel)).trans h2⟩, h3.fr hF (Nat.le_refl _), h4.fr hF (Nat.le_refl _), h5.fr hF (Nat.le_refl _), h6.fr hF (Nat.le_refl _), h7.fr hF (Nat.le_refl _)⟩
noncomputable def w_711 := gtw (amm_2_192.2.1) rfl
noncomputable def w_745 := gtw (amm_2_222.2.2.2.2.2.1) rfl
noncomputable def w_747 := gtw (amm_2_228.2.1) rfl
noncomputable def w_748 := gtw (amm_2_228.2.2.1) rfl
noncomputable def w_759 := gtw (amm_3.2.1) rfl
noncomputable def w_760 := gtw (amm_3.2.2.1) rfl
noncomputable def w_862 := gtw (amm_3_102.2.2.1) rfl
noncomputable def w_863 := gtw (amm_3_102.2.2.2.1) rfl
noncomputable def w_867 := gtw (amm_3_108.2.1) rfl
noncomputable def w_868 := gtw (amm_3_108.2.2.1) rfl
noncomputable def w_1486 := gtw (amm_6_6.2.2.1) rfl
noncomputable def w_1487 := gtw (amm_6_6.2.2.2.1) rfl
noncomputable def w_1488 := gtw (amm_6_6.2.2.2.2.1) rfl
noncomputable def w_1490 := gtw (amm_6_12.1) rfl
noncomputable def w_1491 := gtw (amm_6_12.2.1) rfl
noncomputable def w_1493 := gtw (amm_6_12.2.2.2.1) rfl
noncomputable def w_1494 := gtw (amm_6_12.2.2.2.2.1) rfl
theorem w_1498 : (Jvm.Cond.selects "java/lang/StringBuilder" ({ cls := "java/lang/AbstractStringBuilder", name := "ensureCapacityInternal", desc := "(I)V" } : Jvm.MethodName) ({ cls := "java/lang/AbstractStringBuilder", name := "ensureCapacityInternal", desc := "(I)V" } : Jvm.MethodName)) ∈ GT := agw_x.1 rfl
theorem w_1499 : (Jvm.Cond.selects "java/lang/StringBuilder" ({ cls := "java/lang/AbstractStringBuilder", name := "newCapacity", desc := "(I)I" } : Jvm.MethodName) ({ cls := "java/lang/AbstractStringBuilder", name := "newCapacity", desc := "(I)I" } : Jvm.MethodName)) ∈ GT := agw_x.2.1 rfl
theorem w_1502 : (Jvm.Cond.selects "java/lang/StringBuilder" ({ cls := "java/lang/AbstractStringBuilder", name := "putStringAt", desc := "(ILjava/lang/String;)V" } : Jvm.MethodName) ({ cls := "java/lang/AbstractStringBuilder", name := "putStringAt", desc := "(ILjava/lang/String;)V" } : Jvm.MethodName)) ∈ GT := agw_x.2.2.2.2.1 rfl
theorem w_1503 : (Jvm.Cond.selects "java/lang/StringBuilder" ({ cls := "java/lang/AbstractStringBuilder", name := "inflateIfNeededFor", desc := "(Ljava/lang/String;)V" } : Jvm.MethodName) ({ cls := "java/lang/AbstractStringBuilder", name := "inflateIfNeededFor", desc := "(Ljava/lang/String;)V" } : Jvm.MethodName)) ∈ GT := agw_x.2.2.2.2.2.1 rfl
theorem j_isLatin1 {h : AH} {d bc bs n : Nat} {a b : Nat} {fl x : Int32} (hb : h b = .inr (1, [.ref a, .int 0, .int fl, .int x])) : SM SR0 MJ5_isLatin1_aae02 d bc bs [.ref b] h n (Det (rI (1)) h n) := by
  refine sm_of pn_java_lang_AbstractStringBuilder rfl (Nat.le_of_ble_eq_true rfl) ?_
  refine sw_gets (pc' := 3) rfl dJ5_isLatin1_aae02_0 (v := .int 1) (by decide +kernel) w_690 ?_
  refine sw_if_eq (pc' := 6) (tgt := 17) rfl dJ5_isLatin1_aae02_3 (by decide +kernel) (fun c3 => ?_) (fun c3 => ?_)
  · exact absurd c3 (by decide +kernel)
  · refine sw_aload_n (pc' := 7) rfl dJ5_isLatin1_aae02_6 rfl ?_
    refine sw_getf (ci := 1) (k := 1) (pc' := 10) rfl dJ5_isLatin1_aae02_7 (by decide +kernel) w_700 hb rfl ?_
    refine sw_if_ne (pc' := 13) (tgt := 17) rfl dJ5_isLatin1_aae02_10 (by decide +kernel) (fun c10 => ?_) (fun c10 => ?_)
    · exact absurd c10 (by decide +kernel)
    · refine sw_iconst (pc' := 14) (v := 1) rfl dJ5_isLatin1_aae02_13 (by decide +kernel) ?_
      refine sw_goto (tgt := 18) dJ5_isLatin1_aae02_14 (by decide +kernel) ?_
      refine sw_ret (v := some _) ⟨dJ5_isLatin1_aae02_18, _, rfl, rfl⟩ ?_
      exact ⟨rfl, rfl, rfl⟩
theorem j_getValue {h : AH} {d bc bs n : Nat} {a b : Nat} {fl x : Int32} (hb : h b = .inr (1, [.ref a, .int 0, .int fl, .int x])) : SM SR0 MJ5_getValue_6d5f1 d bc bs [.ref b] h n (Det (.inl (some (.ref a))) h n) := by
  refine sm_of pn_java_lang_AbstractStringBuilder rfl (Nat.le_of_ble_eq_true rfl) ?_
  refine sw_aload_n (pc' := 1) rfl dJ5_getValue_6d5f1_0 rfl ?_
  refine sw_getf (ci := 1) (k := 0) (pc' := 4) rfl dJ5_getValue_6d5f1_1 (by decide +kernel) w_699 hb rfl ?_
  refine sw_ret (v := some _) ⟨dJ5_getValue_6d5f1_4, _, rfl, Or.inr ⟨_, rfl⟩⟩ ?_
  exact ⟨rfl, rfl, rfl⟩
theorem j_length5 {h : AH} {d bc bs n : Nat} {a b : Nat} {fl x : Int32} (hb : h b = .inr (1, [.ref a, .int 0, .int fl, .int x])) : SM SR0 MJ5_length_8abf5 d bc bs [.ref b] h n (Det (rI (x)) h n) := by
  refine sm_of pn_java_lang_AbstractStringBuilder rfl (Nat.le_of_ble_eq_true rfl) ?_
  refine sw_aload_n (pc' := 1) rfl dJ5_length_8abf5_0 rfl ?_
  refine sw_getf (ci := 1) (k := 3) (pc' := 4) rfl dJ5_length_8abf5_1 (by decide +kernel) w_702 hb rfl ?_
  refine sw_ret (v := some _) ⟨dJ5_length_8abf5_4, _, rfl, rfl⟩ ?_
  exact ⟨rfl, rfl, rfl⟩
theorem j_length4 {h : AH} {d bc bs n : Nat} {a b : Nat} {fl x : Int32} (hb : h b = .inr (1, [.ref a, .int 0, .int fl, .int x])) (hd : 1 ≤ d) : SM SR0 MJ4_length_8abf5 d bc bs [.ref b] h n (Det (rI (x)) h n) := by
  refine sm_of pn_java_lang_StringBuilder rfl (Nat.le_of_ble_eq_true rfl) ?_
  refine sw_aload_n (pc' := 1) rfl dJ4_length_8abf5_0 rfl ?_
  refine sw_callSU (M' := MJ5_length_8abf5) (d' := d - 1) (bc' := 0) (bs' := 0) (ci := 1) (as := []) dJ4_length_8abf5_1 w_871 w_867 (by decide +kernel) (by decide +kernel) w_866 w_711 w_53 (by unfold cwM; exact w_872) (show _ = some 0 by decide +kernel) rfl (by omega) (by decide +kernel) (j_length5 hb) hb (Nat.le_of_ble_eq_true rfl) (Nat.zero_le _) (Nat.zero_le _) (det_k ?_) (fun E h' n' _ z => det_x z)
  refine sw_ret (v := some _) ⟨dJ4_length_8abf5_4, _, rfl, rfl⟩ ?_
  exact ⟨rfl, rfl, rfl⟩
theorem j_canEncode {h : AH} {d bc bs n : Nat} {x : Int32} (hx : ¬ 255 < x) : SM SR0 MJ1_canEncode_fc78d d bc bs [.int x] h n (Det (rI (1)) h n) := by
  refine sm_of pn_java_lang_StringLatin1 rfl (Nat.le_of_ble_eq_true rfl) ?_
  refine sw_iload_n (pc' := 1) rfl dJ1_canEncode_fc78d_0 rfl ?_
  refine sw_sipush (pc' := 4) (v := 255) rfl dJ1_canEncode_fc78d_1 (by decide +kernel) ?_
  refine sw_icmp_gt (pc' := 7) (tgt := 11) rfl dJ1_canEncode_fc78d_4 (by decide +kernel) (fun c4 => ?_) (fun c4 => ?_)
  · exact absurd c4 hx
  · refine sw_iconst (pc' := 8) (v := 1) rfl dJ1_canEncode_fc78d_7 (by decide +kernel) ?_
    refine sw_goto (tgt := 12) dJ1_canEncode_fc78d_8 (by decide +kernel) ?_
    refine sw_ret (v := some _) ⟨dJ1_canEncode_fc78d_12, _, rfl, rfl⟩ ?_
    exact ⟨rfl, rfl, rfl⟩
theorem j_newLength {h : AH} {d bc bs n : Nat} {x y z : Nat} (h1 : x + y < 100000) (h2 : x + z < 100000) (h3 : 0 < z) (hd : 1 ≤ d) : SM SR0 MJ8_newLength_cabcc d bc bs [.int (nI x), .int (nI y), .int (nI z)] h n (Det (rI (nI (x + (if y < z then z else y)))) h n) := by
  refine sm_of pn_jdk_internal_util_ArraysSupport rfl (Nat.le_of_ble_eq_true rfl) ?_
  refine sw_iload_n (pc' := 1) rfl dJ8_newLength_cabcc_0 rfl ?_
  refine sw_iload_n (pc' := 2) rfl dJ8_newLength_cabcc_1 rfl ?_
  refine sw_iload_n (pc' := 3) rfl dJ8_newLength_cabcc_2 rfl ?_
  refine sw_S (M' := MJ9_max_7cf53) (d' := d - 1) (bc' := 0) (bs' := 0) (as := [_, _]) dJ8_newLength_cabcc_3 w_733 ok_J9_max_7cf53 (m_max) (by omega) (Nat.le_of_ble_eq_true rfl) (Nat.zero_le _) (Nat.zero_le _) (fun E h' n' _ z => det_x z) (det_k ?_)
  rw [maxN (by omega) (by omega)]
  refine sw_iadd (pc' := 7) rfl dJ8_newLength_cabcc_6 ?_
  rw [show nI x + nI (if y < z then z else y) = nI (x + (if y < z then z else y)) from nI_add _ _]
  have hcap : 0 < x + (if y < z then z else y) ∧ x + (if y < z then z else y) < 100000 := by split <;> omega
  refine sw_istore_n (pc' := 8) (lv' := [(3, _), (0, _), (1, _), (2, _)]) rfl dJ8_newLength_cabcc_7 (by decide +kernel) rfl ?_
  refine sw_iconst (pc' := 9) (v := 0) rfl dJ8_newLength_cabcc_8 (by decide +kernel) ?_
  refine sw_iload_n (pc' := 10) rfl dJ8_newLength_cabcc_9 rfl ?_
  refine sw_icmp_ge (pc' := 13) (tgt := 21) rfl dJ8_newLength_cabcc_10 (by decide +kernel) (fun c10 => ?_) (fun c10 => ?_)
  · exact absurd c10 (nI_nle hcap.1 (by omega))
  · refine sw_iload_n (pc' := 14) rfl dJ8_newLength_cabcc_13 rfl ?_
    refine sw_ldcI (pc' := 16) (v := 2147483639) rfl dJ8_newLength_cabcc_14 w_736 ?_
    refine sw_icmp_gt (pc' := 19) (tgt := 21) rfl dJ8_newLength_cabcc_16 (by decide +kernel) (fun c16 => ?_) (fun c16 => ?_)
    · exact absurd c16 (nI_nlt (a := 2147483639) (b := _) (by omega) (by decide +kernel))
    · refine sw_iload_n (pc' := 20) rfl dJ8_newLength_cabcc_19 rfl ?_
      refine sw_ret (v := some _) ⟨dJ8_newLength_cabcc_20, _, rfl, rfl⟩ ?_
      exact ⟨rfl, rfl, rfl⟩
theorem capG_le {q m B : Nat} (h : m < q) (hq : q ≤ B) : q ≤ capG q m ∧ capG q m ≤ 2 * B := by unfold capG; split <;> omega
theorem j_newCapacity {h : AH} {d bc bs n : Nat} {a b m q B : Nat} {f : Nat → Int32} {fl x : Int32} (hb : h b = .inr (1, [.ref a, .int 0, .int fl, .int x])) (ha : h a = .inl (2, m, .inl f)) (ha0 : 100 ≤ a) (hmq : m < q) (hq : q ≤ B) (hB : B ≤ 1000) (hd : 2 ≤ d) : SM SR0 MJ5_newCapacity_0f7a4 d bc bs [.ref b, .int (nI q)] h n (Det (rI (nI (capG q m))) h n) := by
  refine sm_of pn_java_lang_AbstractStringBuilder rfl (Nat.le_of_ble_eq_true rfl) ?_
  refine sw_aload_n (pc' := 1) rfl dJ5_newCapacity_0f7a4_0 rfl ?_
  refine sw_getf (ci := 1) (k := 0) (pc' := 4) rfl dJ5_newCapacity_0f7a4_1 (by decide +kernel) w_699 hb rfl ?_
  refine sw_alen (pc' := 5) rfl dJ5_newCapacity_0f7a4_4 ha (by decide +kernel) (Or.inl (by show 100 ≤ _; omega)) ?_
  refine sw_istore_n (pc' := 6) (lv' := [(2, _), (0, _), (1, _)]) rfl dJ5_newCapacity_0f7a4_5 (by decide +kernel) rfl ?_
  refine sw_iload_n (pc' := 7) rfl dJ5_newCapacity_0f7a4_6 rfl ?_
  refine sw_aload_n (pc' := 8) rfl dJ5_newCapacity_0f7a4_7 rfl ?_
  refine sw_getf (ci := 1) (k := 1) (pc' := 11) rfl dJ5_newCapacity_0f7a4_8 (by decide +kernel) w_700 hb rfl ?_
  refine sw_ishl (pc' := 12) rfl dJ5_newCapacity_0f7a4_11 ?_
  rw [shl0]
  refine sw_istore_n (pc' := 13) (lv' := [(3, _), (2, _), (0, _), (1, _)]) rfl dJ5_newCapacity_0f7a4_12 (by decide +kernel) rfl ?_
  refine sw_iload_n (pc' := 14) rfl dJ5_newCapacity_0f7a4_13 rfl ?_
  refine sw_iload_n (pc' := 15) rfl dJ5_newCapacity_0f7a4_14 rfl ?_
  refine sw_isub (pc' := 16) rfl dJ5_newCapacity_0f7a4_15 ?_
  rw [show nI q - nI m = nI (q - m) from pk_sub (by omega)]
  refine sw_istore (pc' := 18) (lv' := [(4, _), (3, _), (2, _), (0, _), (1, _)]) rfl dJ5_newCapacity_0f7a4_16 (by decide +kernel) rfl ?_
  refine sw_iload_n (pc' := 19) rfl dJ5_newCapacity_0f7a4_18 rfl ?_
  refine sw_iload (pc' := 21) rfl dJ5_newCapacity_0f7a4_19 rfl ?_
  refine sw_iload_n (pc' := 22) rfl dJ5_newCapacity_0f7a4_21 rfl ?_
  refine sw_iconst (pc' := 23) (v := 2) rfl dJ5_newCapacity_0f7a4_22 (by decide +kernel) ?_
  refine sw_aload_n (pc' := 24) rfl dJ5_newCapacity_0f7a4_23 rfl ?_
  refine sw_getf (ci := 1) (k := 1) (pc' := 27) rfl dJ5_newCapacity_0f7a4_24 (by decide +kernel) w_700 hb rfl ?_
  refine sw_ishl (pc' := 28) rfl dJ5_newCapacity_0f7a4_27 ?_
  rw [shl0]
  refine sw_iadd (pc' := 29) rfl dJ5_newCapacity_0f7a4_28 ?_
  rw [show nI m + 2 = nI (m + 2) from nI_add m 2]
  refine sw_S (M' := MJ8_newLength_cabcc) (d' := d - 1) (bc' := 0) (bs' := 0) (as := [_, _, _]) dJ5_newCapacity_0f7a4_29 w_730 ok_J8_newLength_cabcc (j_newLength (x := m) (y := q - m) (z := m + 2) (by omega) (by omega) (by omega) (by omega)) (by omega) (Nat.le_of_ble_eq_true rfl) (Nat.zero_le _) (Nat.zero_le _) (fun E h' n' _ z => det_x z) (det_k ?_)
  refine sw_istore (pc' := 34) (lv' := [(5, _), (4, _), (3, _), (2, _), (0, _), (1, _)]) rfl dJ5_newCapacity_0f7a4_32 (by decide +kernel) rfl ?_
  have hcp := capG_le hmq hq
  unfold capG at hcp
  refine sw_iload (pc' := 36) rfl dJ5_newCapacity_0f7a4_34 rfl ?_
  refine sw_ldcI (pc' := 38) (v := 2147483647) rfl dJ5_newCapacity_0f7a4_36 w_740 ?_
  refine sw_icmp_ne (pc' := 41) (tgt := 51) rfl dJ5_newCapacity_0f7a4_38 (by decide +kernel) (fun c38 => ?_) (fun c38 => ?_)
  · refine sw_iload (pc' := 53) rfl dJ5_newCapacity_0f7a4_51 rfl ?_
    refine sw_aload_n (pc' := 54) rfl dJ5_newCapacity_0f7a4_53 rfl ?_
    refine sw_getf (ci := 1) (k := 1) (pc' := 57) rfl dJ5_newCapacity_0f7a4_54 (by decide +kernel) w_700 hb rfl ?_
    refine sw_ishr (pc' := 58) rfl dJ5_newCapacity_0f7a4_57 ?_
    rw [shr0]
    refine sw_ret (v := some _) ⟨dJ5_newCapacity_0f7a4_58, _, rfl, rfl⟩ ?_
    exact ⟨rfl, rfl, rfl⟩
  · exact absurd ((nI_eq (b := 2147483647) (by omega) (by decide +kernel)).mp c38) (by omega)
theorem j_copyOf {h : AH} {d bc bs n : Nat} {a m q : Nat} {f : Nat → Int32} (ha : h a = .inl (2, m, .inl f)) (hf : bfit f) (ha0 : 100 ≤ a) (han : a < n) (hmq : m < q) (hq : q ≤ 2000) (hd : 1 ≤ d) (h1 : 1 ≤ bc) (h2 : q ≤ bs) : SM SR0 MJ7_copyOf_9075b d bc bs [.ref a, .int (nI q)] h n (NBo h n q) := by
  refine sm_of pn_java_util_Arrays rfl (Nat.le_of_ble_eq_true rfl) ?_
  refine sw_iload_n (pc' := 1) rfl dJ7_copyOf_9075b_0 rfl ?_
  refine sw_aload_n (pc' := 2) rfl dJ7_copyOf_9075b_1 rfl ?_
  refine sw_alen (pc' := 3) rfl dJ7_copyOf_9075b_2 ha (by decide +kernel) (Or.inl (by show 100 ≤ _; omega)) ?_
  refine sw_icmp_ne (pc' := 6) (tgt := 14) rfl dJ7_copyOf_9075b_3 (by decide +kernel) (fun c3 => ?_) (fun c3 => ?_)
  · refine sw_iload_n (pc' := 15) rfl dJ7_copyOf_9075b_14 rfl ?_
    refine sw_newa (t := 2) (len := q) (pc' := 17) rfl dJ7_copyOf_9075b_15 (by decide +kernel) w_352 rfl (by omega) (by omega) (by omega) ?_
    refine sw_nm (fun g1 eg1 => ?_)
    have zg1 := (congrFun eg1 n).trans (up_s (h := h) (i := n))
    refine sw_astore_n (pc' := 18) (lv' := [(2, _), (0, _), (1, _)]) rfl dJ7_copyOf_9075b_17 (by decide +kernel) rfl ?_
    refine sw_aload_n (pc' := 19) rfl dJ7_copyOf_9075b_18 rfl ?_
    refine sw_iconst (pc' := 20) (v := 0) rfl dJ7_copyOf_9075b_19 (by decide +kernel) ?_
    refine sw_aload_n (pc' := 21) rfl dJ7_copyOf_9075b_20 rfl ?_
    refine sw_iconst (pc' := 22) (v := 0) rfl dJ7_copyOf_9075b_21 (by decide +kernel) ?_
    refine sw_aload_n (pc' := 23) rfl dJ7_copyOf_9075b_22 rfl ?_
    refine sw_alen (pc' := 24) rfl dJ7_copyOf_9075b_23 (((congrFun eg1 a).trans (up_n (by omega))).trans ha) (by decide +kernel) (Or.inl (by show 100 ≤ _; omega)) ?_
    refine sw_iload_n (pc' := 25) rfl dJ7_copyOf_9075b_24 rfl ?_
    refine sw_S (M' := MJ9_min_7cf53) (d' := d - 1) (bc' := 0) (bs' := 0) (as := [_, _]) dJ7_copyOf_9075b_25 w_751 ok_J9_min_7cf53 (m_min) (by omega) (Nat.le_of_ble_eq_true rfl) (Nat.zero_le _) (Nat.zero_le _) (fun E h' n' _ z => det_x z) (det_k ?_)
    rw [minN (by omega) (by omega)]
    refine sw_copyB (pc' := 31) (sp := 0) (dp := 0) (k := m) rfl dJ7_copyOf_9075b_28 w_754 w_756 w_755 w_59 (((congrFun eg1 a).trans (up_n (by omega))).trans ha) zg1 (by show 100 ≤ _; omega) hf (by omega) (by omega) rfl rfl rfl (by omega) (by omega) (Nat.le_of_ble_eq_true rfl) ?_
    refine sw_nm (fun g2 eg2 => ?_)
    have zg2 := (congrFun eg2 n).trans (up_s (h := g1) (i := n))
    refine sw_aload_n (pc' := 32) rfl dJ7_copyOf_9075b_31 rfl ?_
    refine sw_ret (v := some _) ⟨dJ7_copyOf_9075b_32, _, rfl, Or.inr ⟨_, rfl⟩⟩ ?_
    exact ⟨rfl, rfl, ⟨_, zg2, bfit_cpy hf bfit0⟩, fun i h1 => (congrFun eg2 i).trans ((up_n h1).trans ((congrFun eg1 i).trans ((up_n h1).trans (rfl))))⟩
  · exact absurd ((nI_eq (by omega) (by omega)).mp c3) (by omega)
theorem j_ensure {h : AH} {d bc bs n : Nat} {n1 n0 b N m q : Nat} (hS : SbF h n1 n0 b N m) (hn1 : n1 ≤ n) (h0 : 100 ≤ n0) (hNq : N ≤ q) (hq : q ≤ 1000) (hm : m ≤ 2000) (hd : 4 ≤ d) (h1 : 1 ≤ bc) (h2 : grC m q ≤ bs) : SM SR0 MJ5_ensureCapacityInternal_d00df d bc bs [.ref b, .int (nI q)] h n (SEo h n n1 n0 b N (capN m q) none) := by
  obtain ⟨a, f, fl, hb, ha, hf, hNC, ha0, han, hb0, hbn, hba⟩ := hS
  refine sm_of pn_java_lang_AbstractStringBuilder rfl (Nat.le_of_ble_eq_true rfl) ?_
  refine sw_aload_n (pc' := 1) rfl dJ5_ensureCapacityInternal_d00df_0 rfl ?_
  refine sw_getf (ci := 1) (k := 0) (pc' := 4) rfl dJ5_ensureCapacityInternal_d00df_1 (by decide +kernel) w_699 hb rfl ?_
  refine sw_alen (pc' := 5) rfl dJ5_ensureCapacityInternal_d00df_4 ha (by decide +kernel) (Or.inl (by show 100 ≤ _; omega)) ?_
  refine sw_aload_n (pc' := 6) rfl dJ5_ensureCapacityInternal_d00df_5 rfl ?_
  refine sw_getf (ci := 1) (k := 1) (pc' := 9) rfl dJ5_ensureCapacityInternal_d00df_6 (by decide +kernel) w_700 hb rfl ?_
  refine sw_ishr (pc' := 10) rfl dJ5_ensureCapacityInternal_d00df_9 ?_
  rw [shr0]
  refine sw_istore_n (pc' := 11) (lv' := [(2, _), (0, _), (1, _)]) rfl dJ5_ensureCapacityInternal_d00df_10 (by decide +kernel) rfl ?_
  refine sw_iload_n (pc' := 12) rfl dJ5_ensureCapacityInternal_d00df_11 rfl ?_
  refine sw_iload_n (pc' := 13) rfl dJ5_ensureCapacityInternal_d00df_12 rfl ?_
  refine sw_isub (pc' := 14) rfl dJ5_ensureCapacityInternal_d00df_13 ?_
  refine sw_if_le (pc' := 17) (tgt := 38) rfl dJ5_ensureCapacityInternal_d00df_14 (by decide +kernel) (fun c14 => ?_) (fun c14 => ?_)
  · refine sw_ret (v := none) ⟨dJ5_ensureCapacityInternal_d00df_38, rfl⟩ ?_
    have hqm : q ≤ m := Nat.le_of_not_lt (fun g => (show ¬ nI q - nI m ≤ 0 from by rw [pk_sub (by omega)]; exact nI_nle (by omega) (by omega)) c14)
    rw [capN_s hqm]
    exact ⟨rfl, Nat.le_refl _, ⟨a, f, fl, hb, ha, hf, by omega, ha0, by omega, hb0, by omega, hba, Or.inl han⟩, fun _ _ => rfl⟩
  · have hqm : ¬ q ≤ m := fun g => c14 (by
      by_cases e : q = m
      · rw [e, Int32.sub_self]; exact Int32.le_refl _
      · exact Int32.le_of_lt (pk_sneg (by omega) (by omega)))
    refine sw_aload_n (pc' := 18) rfl dJ5_ensureCapacityInternal_d00df_17 rfl ?_
    refine sw_aload_n (pc' := 19) rfl dJ5_ensureCapacityInternal_d00df_18 rfl ?_
    refine sw_getf (ci := 1) (k := 0) (pc' := 22) rfl dJ5_ensureCapacityInternal_d00df_19 (by decide +kernel) w_699 hb rfl ?_
    refine sw_aload_n (pc' := 23) rfl dJ5_ensureCapacityInternal_d00df_22 rfl ?_
    refine sw_iload_n (pc' := 24) rfl dJ5_ensureCapacityInternal_d00df_23 rfl ?_
    have h2g : capG q m ≤ bs := by rw [show grC m q = capG q m from if_neg hqm] at h2; exact h2
    refine sw_callU (M' := MJ5_newCapacity_0f7a4) (x := ({ cls := "java/lang/AbstractStringBuilder", name := "newCapacity", desc := "(I)I" } : Jvm.MethodName)) (d' := d - 1) (bc' := 0) (bs' := 0) (ci := 1) (as := [_]) dJ5_ensureCapacityInternal_d00df_24 w_726 w_1488 rfl w_728 w_1499 w_53 (by unfold cwM; exact w_729) (by decide +kernel) (show _ = some 1 by decide +kernel) rfl (by omega) (by decide +kernel) (j_newCapacity (B := 1000) hb ha (by omega) (by omega) hq (Nat.le_refl _) (by omega)) hb (Nat.le_of_ble_eq_true rfl) (Nat.zero_le _) (Nat.zero_le _) (det_k ?_) (fun E h' n' _ z => det_x z)
    have hcp := capG_le (q := q) (m := m) (B := 1000) (by omega) hq
    refine sw_aload_n (pc' := 28) rfl dJ5_ensureCapacityInternal_d00df_27 rfl ?_
    refine sw_getf (ci := 1) (k := 1) (pc' := 31) rfl dJ5_ensureCapacityInternal_d00df_28 (by decide +kernel) w_700 hb rfl ?_
    refine sw_ishl (pc' := 32) rfl dJ5_ensureCapacityInternal_d00df_31 ?_
    rw [shl0]
    refine sw_S (M' := MJ7_copyOf_9075b) (d' := d - 1) (bc' := 1) (bs' := (capG q m)) (as := [_, _]) dJ5_ensureCapacityInternal_d00df_32 w_741 ok_J7_copyOf_9075b (j_copyOf ha hf (by omega) (by omega) (by omega) (by omega) (by omega) (by omega) (by omega)) (by omega) (Nat.le_of_ble_eq_true rfl) (by omega) (by omega) (fun E h' n' _ z => nbo_x z) (nbo_k (fun p pf pN pfit pF => ?_))
    refine sw_putf (ci := 1) (k := 0) (pc' := 38) rfl dJ5_ensureCapacityInternal_d00df_35 (by decide +kernel) (by decide +kernel) w_699 rfl ((pF b (by omega)).trans hb) (by show 100 ≤ _; omega) (Nat.le_of_ble_eq_true rfl) rfl rfl ?_
    refine sw_nm (fun g1 eg1 => ?_)
    have zg1 := (congrFun eg1 b).trans (up_s (h := p) (i := b))
    refine sw_ret (v := none) ⟨dJ5_ensureCapacityInternal_d00df_38, rfl⟩ ?_
    rw [show capN m q = capG q m from if_neg hqm]
    exact ⟨rfl, Nat.le_succ _, ⟨n, pf, fl, zg1, (((congrFun eg1 n).trans (up_n (by omega))).trans pN), pfit, by omega, by omega, Nat.lt_succ_self _, by omega, by omega, by omega, Or.inr (Nat.le_refl _)⟩, fun i hi => (congrFun eg1 i).trans ((up_n (by omega)).trans (pF i (by omega)))⟩
theorem j_appendC5 {h : AH} {d bc bs n : Nat} {n1 n0 b N m : Nat} {x : Int32} (hS : SbF h n1 n0 b N m) (hn1 : n1 ≤ n) (h0 : 100 ≤ n0) (hm : m ≤ 2000) (hx : ¬ 255 < x) (hN : N + 1 ≤ 1000) (hd : 5 ≤ d) (h1 : 1 ≤ bc) (h2 : grC m (N + 1) ≤ bs) : SM SR0 MJ5_append_3fe6f d bc bs [.ref b, .int x] h n (SBo h n n1 n0 b (N + 1) (capN m (N + 1)) (some (.ref b))) := by
  obtain ⟨a0, f0, fl0, hS0, -⟩ := id hS
  have hbb := hS.lt
  have hrm := hS.rm
  refine sm_of pn_java_lang_AbstractStringBuilder rfl (Nat.le_of_ble_eq_true rfl) ?_
  refine sw_aload_n (pc' := 1) rfl dJ5_append_3fe6f_0 rfl ?_
  refine sw_aload_n (pc' := 2) rfl dJ5_append_3fe6f_1 rfl ?_
  refine sw_getf (ci := 1) (k := 3) (pc' := 5) rfl dJ5_append_3fe6f_2 (by decide +kernel) w_702 hS0 rfl ?_
  refine sw_iconst (pc' := 6) (v := 1) rfl dJ5_append_3fe6f_5 (by decide +kernel) ?_
  refine sw_iadd (pc' := 7) rfl dJ5_append_3fe6f_6 ?_
  rw [nI_1]
  refine sw_callU (M' := MJ5_ensureCapacityInternal_d00df) (x := ({ cls := "java/lang/AbstractStringBuilder", name := "ensureCapacityInternal", desc := "(I)V" } : Jvm.MethodName)) (d' := d - 1) (bc' := 1) (bs' := (grC m (N + 1))) (ci := 1) (as := [_]) dJ5_append_3fe6f_7 w_722 w_1487 rfl w_724 w_1498 w_53 (by unfold cwM; exact w_725) (by decide +kernel) (show _ = some 1 by decide +kernel) rfl (by omega) (by decide +kernel) (j_ensure hS hn1 h0 (by omega) (by omega) hm (by omega) (by omega) (Nat.le_refl _)) hS0 (Nat.le_of_ble_eq_true rfl) (by omega) (by omega) (seo_k (fun p pn pk pS pF => ?_)) (fun E h' n' _ z => seo_x z)
  obtain ⟨pa, pf, pfl, pb, ph, pfit, pNm, pa0, pan, pb0, pbn, pba, pax⟩ := id pS
  obtain ⟨-, hp1, hp2, hp3⟩ := pot (m := m) (q := N + 1) (K := 2000) (by omega) (by omega)
  refine sw_aload_n (pc' := 11) rfl dJ5_append_3fe6f_10 rfl ?_
  refine sw_callU (M' := MJ5_isLatin1_aae02) (x := ({ cls := "java/lang/AbstractStringBuilder", name := "isLatin1", desc := "()Z" } : Jvm.MethodName)) (d' := d - 1) (bc' := 0) (bs' := 0) (ci := 1) (as := []) dJ5_append_3fe6f_11 w_757 w_759 rfl w_758 w_760 w_53 (by unfold cwM; exact w_761) (by decide +kernel) (show _ = some 0 by decide +kernel) rfl (by omega) (by decide +kernel) (j_isLatin1 pb) pb (Nat.le_of_ble_eq_true rfl) (Nat.zero_le _) (Nat.zero_le _) (det_k ?_) (fun E h' n' _ z => det_x z)
  refine sw_if_eq (pc' := 17) (tgt := 45) rfl dJ5_append_3fe6f_14 (by decide +kernel) (fun c14 => ?_) (fun c14 => ?_)
  · exact absurd c14 (by decide +kernel)
  · refine sw_iload_n (pc' := 18) rfl dJ5_append_3fe6f_17 rfl ?_
    refine sw_S (M' := MJ1_canEncode_fc78d) (d' := d - 1) (bc' := 0) (bs' := 0) (as := [_]) dJ5_append_3fe6f_18 w_762 ok_J1_canEncode_fc78d (j_canEncode hx) (by omega) (Nat.le_of_ble_eq_true rfl) (Nat.zero_le _) (Nat.zero_le _) (fun E h' n' _ z => det_x z) (det_k ?_)
    refine sw_if_eq (pc' := 24) (tgt := 45) rfl dJ5_append_3fe6f_21 (by decide +kernel) (fun c21 => ?_) (fun c21 => ?_)
    · exact absurd c21 (by decide +kernel)
    · refine sw_aload_n (pc' := 25) rfl dJ5_append_3fe6f_24 rfl ?_
      refine sw_getf (ci := 1) (k := 0) (pc' := 28) rfl dJ5_append_3fe6f_25 (by decide +kernel) w_699 pb rfl ?_
      refine sw_aload_n (pc' := 29) rfl dJ5_append_3fe6f_28 rfl ?_
      refine sw_dup (pc' := 30) rfl dJ5_append_3fe6f_29 rfl ?_
      refine sw_getf (ci := 1) (k := 3) (pc' := 33) rfl dJ5_append_3fe6f_30 (by decide +kernel) w_702 pb rfl ?_
      refine sw_dup_x1 (pc' := 34) rfl dJ5_append_3fe6f_33 rfl rfl ?_
      refine sw_iconst (pc' := 35) (v := 1) rfl dJ5_append_3fe6f_34 (by decide +kernel) ?_
      refine sw_iadd (pc' := 36) rfl dJ5_append_3fe6f_35 ?_
      rw [nI_1]
      refine sw_putf (ci := 1) (k := 3) (pc' := 39) rfl dJ5_append_3fe6f_36 (by decide +kernel) (by decide +kernel) w_702 rfl pb (by show 100 ≤ _; omega) (Nat.le_of_ble_eq_true rfl) rfl rfl ?_
      refine sw_nm (fun g1 eg1 => ?_)
      have zg1 := (congrFun eg1 b).trans (up_s (h := p) (i := b))
      refine sw_iload_n (pc' := 40) rfl dJ5_append_3fe6f_39 rfl ?_
      refine sw_i2b (pc' := 41) rfl dJ5_append_3fe6f_40 ?_
      refine sw_bast (j := N) (pc' := 42) rfl dJ5_append_3fe6f_41 (((congrFun eg1 pa).trans (up_n (by omega))).trans ph) (by show 100 ≤ _; omega) rfl (by omega) (by omega) ?_
      refine sw_nm (fun g2 eg2 => ?_)
      have zg2 := (congrFun eg2 pa).trans (up_s (h := g1) (i := pa))
      refine sw_goto (tgt := 75) dJ5_append_3fe6f_42 (by decide +kernel) ?_
      refine sw_aload_n (pc' := 76) rfl dJ5_append_3fe6f_75 rfl ?_
      refine sw_ret (v := some _) ⟨dJ5_append_3fe6f_76, _, rfl, Or.inl ⟨_, rfl⟩⟩ ?_
      exact ⟨rfl, pk, ⟨pa, _, pfl, (((congrFun eg2 b).trans (up_n (by omega))).trans zg1), zg2, bfit_up pfit, by omega, pa0, pan, pb0, pbn, pba⟩, fun i hi => (congrFun eg2 i).trans ((up_n (by omega)).trans ((congrFun eg1 i).trans ((up_n (by omega)).trans (pF i hi))))⟩
theorem j_appendC {h : AH} {d bc bs n : Nat} {n1 n0 b N m : Nat} {x : Int32} (hS : SbF h n1 n0 b N m) (hn1 : n1 ≤ n) (h0 : 100 ≤ n0) (hm : m ≤ 2000) (hx : ¬ 255 < x) (hN : N + 1 ≤ 1000) (hd : 6 ≤ d) (h1 : 1 ≤ bc) (h2 : grC m (N + 1) ≤ bs) : SM SR0 MJ4_append_cf468 d bc bs [.ref b, .int x] h n (SBo h n n1 n0 b (N + 1) (capN m (N + 1)) (some (.ref b))) := by
  obtain ⟨a0, f0, fl0, hS0, -⟩ := id hS
  have hbb := hS.lt
  have hrm := hS.rm
  refine sm_of pn_java_lang_StringBuilder rfl (Nat.le_of_ble_eq_true rfl) ?_
  refine sw_aload_n (pc' := 1) rfl dJ4_append_cf468_0 rfl ?_
  refine sw_iload_n (pc' := 2) rfl dJ4_append_cf468_1 rfl ?_
  refine sw_callSU (M' := MJ5_append_3fe6f) (d' := d - 1) (bc' := 1) (bs' := (grC m (N + 1))) (ci := 1) (as := [_]) dJ4_append_cf468_2 w_719 w_1486 (by decide +kernel) (by decide +kernel) w_720 w_711 w_53 (by unfold cwM; exact w_721) (show _ = some 1 by decide +kernel) rfl (by omega) (by decide +kernel) (j_appendC5 hS hn1 h0 hm hx hN (by omega) (by omega) (Nat.le_refl _)) hS0 (Nat.le_of_ble_eq_true rfl) (by omega) (by omega) (sbo_k (fun p pn pk pS pF => ?_)) (fun E h' n' _ z => sbo_x z)
  refine sw_pop (pc' := 6) rfl dJ4_append_cf468_5 rfl ?_
  refine sw_aload_n (pc' := 7) rfl dJ4_append_cf468_6 rfl ?_
  refine sw_ret (v := some _) ⟨dJ4_append_cf468_7, _, rfl, Or.inl ⟨_, rfl⟩⟩ ?_
  exact ⟨rfl, pk, pS, pF⟩
theorem j_stringSize {h : AH} {d bc bs n : Nat} {k : Nat} (hk : k < 100) : SM SR0 MJ6_stringSize_0f7a4 d bc bs [.int (nI k)] h n (Det (rI (nI (dgt k))) h n) := by
  refine sm_of pn_java_lang_Integer rfl (Nat.le_of_ble_eq_true rfl) ?_
  refine sw_iconst (pc' := 1) (v := 1) rfl dJ6_stringSize_0f7a4_0 (by decide +kernel) ?_
  refine sw_istore_n (pc' := 2) (lv' := [(1, _), (0, _)]) rfl dJ6_stringSize_0f7a4_1 (by decide +kernel) rfl ?_
  refine sw_iload_n (pc' := 3) rfl dJ6_stringSize_0f7a4_2 rfl ?_
  refine sw_if_lt (pc' := 6) (tgt := 11) rfl dJ6_stringSize_0f7a4_3 (by decide +kernel) (fun c3 => ?_) (fun c3 => ?_)
  · exact absurd c3 (nI_pos (by omega))
  · refine sw_iconst (pc' := 7) (v := 0) rfl dJ6_stringSize_0f7a4_6 (by decide +kernel) ?_
    refine sw_istore_n (pc' := 8) (lv' := [(1, _), (0, _)]) rfl dJ6_stringSize_0f7a4_7 (by decide +kernel) rfl ?_
    refine sw_iload_n (pc' := 9) rfl dJ6_stringSize_0f7a4_8 rfl ?_
    refine sw_ineg (pc' := 10) rfl dJ6_stringSize_0f7a4_9 ?_
    refine sw_istore_n (pc' := 11) (lv' := [(0, _), (1, _)]) rfl dJ6_stringSize_0f7a4_10 (by decide +kernel) rfl ?_
    refine sw_bipush (pc' := 13) (v := (-10)) rfl dJ6_stringSize_0f7a4_11 (by decide +kernel) ?_
    refine sw_istore_n (pc' := 14) (lv' := [(2, _), (0, _), (1, _)]) rfl dJ6_stringSize_0f7a4_13 (by decide +kernel) rfl ?_
    refine sw_iconst (pc' := 15) (v := 1) rfl dJ6_stringSize_0f7a4_14 (by decide +kernel) ?_
    refine sw_istore_n (pc' := 16) (lv' := [(3, _), (2, _), (0, _), (1, _)]) rfl dJ6_stringSize_0f7a4_15 (by decide +kernel) rfl ?_
    refine sw_iload_n (pc' := 17) rfl dJ6_stringSize_0f7a4_16 rfl ?_
    refine sw_bipush (pc' := 19) (v := 10) rfl dJ6_stringSize_0f7a4_17 (by decide +kernel) ?_
    refine sw_icmp_ge (pc' := 22) (tgt := 42) rfl dJ6_stringSize_0f7a4_19 (by decide +kernel) (fun c19 => ?_) (fun c19 => ?_)
    · exact absurd c19 (by decide +kernel)
    · refine sw_iload_n (pc' := 23) rfl dJ6_stringSize_0f7a4_22 rfl ?_
      refine sw_iload_n (pc' := 24) rfl dJ6_stringSize_0f7a4_23 rfl ?_
      refine sw_icmp_le (pc' := 27) (tgt := 31) rfl dJ6_stringSize_0f7a4_24 (by decide +kernel) (fun c24 => ?_) (fun c24 => ?_)
      · have k10 : 10 ≤ k := (neg_le (L := 10) hk (by omega)).mp c24
        refine sw_bipush (pc' := 33) (v := 10) rfl dJ6_stringSize_0f7a4_31 (by decide +kernel) ?_
        refine sw_iload_n (pc' := 34) rfl dJ6_stringSize_0f7a4_33 rfl ?_
        refine sw_imul (pc' := 35) rfl dJ6_stringSize_0f7a4_34 ?_
        rw [show (10 : Int32) * (-10) = -100 by decide +kernel]
        refine sw_istore_n (pc' := 36) (lv' := [(2, _), (3, _), (0, _), (1, _)]) rfl dJ6_stringSize_0f7a4_35 (by decide +kernel) rfl ?_
        refine sw_iinc (pc' := 39) (lv' := [(3, _), (2, _), (0, _), (1, _)]) (v := 2) rfl dJ6_stringSize_0f7a4_36 rfl rfl (by decide +kernel) rfl ?_
        refine sw_goto (tgt := 16) dJ6_stringSize_0f7a4_39 (by decide +kernel) ?_
        refine sw_iload_n (pc' := 17) rfl dJ6_stringSize_0f7a4_16 rfl ?_
        refine sw_bipush (pc' := 19) (v := 10) rfl dJ6_stringSize_0f7a4_17 (by decide +kernel) ?_
        refine sw_icmp_ge (pc' := 22) (tgt := 42) rfl dJ6_stringSize_0f7a4_19 (by decide +kernel) (fun c19 => ?_) (fun c19 => ?_)
        · exact absurd c19 (by decide +kernel)
        · refine sw_iload_n (pc' := 23) rfl dJ6_stringSize_0f7a4_22 rfl ?_
          refine sw_iload_n (pc' := 24) rfl dJ6_stringSize_0f7a4_23 rfl ?_
          refine sw_icmp_le (pc' := 27) (tgt := 31) rfl dJ6_stringSize_0f7a4_24 (by decide +kernel) (fun c24 => ?_) (fun c24 => ?_)
          · exact absurd ((neg_le (L := 100) hk (by omega)).mp c24) (by omega)
          · refine sw_iload_n (pc' := 28) rfl dJ6_stringSize_0f7a4_27 rfl ?_
            refine sw_iload_n (pc' := 29) rfl dJ6_stringSize_0f7a4_28 rfl ?_
            refine sw_iadd (pc' := 30) rfl dJ6_stringSize_0f7a4_29 ?_
            rw [show 2 + 0 = nI (2 + 0) from nI_add _ _]
            refine sw_ret (v := some _) ⟨dJ6_stringSize_0f7a4_30, _, rfl, rfl⟩ ?_
            rw [show dgt k = 2 from if_neg (by omega)]
            exact ⟨rfl, rfl, rfl⟩
      · refine sw_iload_n (pc' := 28) rfl dJ6_stringSize_0f7a4_27 rfl ?_
        refine sw_iload_n (pc' := 29) rfl dJ6_stringSize_0f7a4_28 rfl ?_
        refine sw_iadd (pc' := 30) rfl dJ6_stringSize_0f7a4_29 ?_
        rw [show 1 + 0 = nI (1 + 0) from nI_add _ _]
        refine sw_ret (v := some _) ⟨dJ6_stringSize_0f7a4_30, _, rfl, rfl⟩ ?_
        rw [show dgt k = 1 from if_pos (Nat.lt_of_not_le (fun g => c24 ((neg_le (L := 10) hk (by omega)).mpr g)))]
        exact ⟨rfl, rfl, rfl⟩
/-- bytes are otherwise -/
def BUo (h : AH) (n a m : Nat) (r : Option Value) : ARes → AH → Nat → Prop := fun r' h' n' => r' = .inl r ∧ n' = n ∧ (∃ f, h' a = .inl (2, m, .inl f) ∧ bfit f) ∧ ∀ i, i ≠ a → h' i = h i
theorem buo_k {A : Nat → AH → Option Value → Prop} {h : AH} {n a m n0 : Nat} {r : Option Value} (k : ∀ h' f, h' a = .inl (2, m, .inl f) → bfit f → (∀ i, i ≠ a → h' i = h i) → A n h' r) : ∀ (v : Option Value) (h' : AH) (n' : Nat), n0 ≤ n' → BUo h n a m r (.inl v) h' n' → A n' h' v := by
  rintro v h' n' - ⟨e, rfl, ⟨f, g1, g2⟩, g3⟩
  cases e
  exact k h' f g1 g2 g3
theorem buo_x {A : Prop} {h : AH} {n a m : Nat} {r : Option Value} {E : String} {h' : AH} {n' : Nat} (z : BUo h n a m r (.inr E) h' n') : A := by cases z.1
theorem gch9c {k : Nat} (hk : k < 100) : (-9 : Int32) ≤ -nI k ↔ k < 10 := by
  have e := neg_le (k := k) (L := 10) hk (by omega)
  constructor
  · intro h
    apply Nat.lt_of_not_le
    intro g
    have h2 := e.mpr g
    exact absurd (Int32.le_trans h h2) (by decide +kernel)
  · intro g
    have h2 : ¬ -nI k ≤ -nI 10 := fun q => absurd (e.mp q) (by omega)
    have h3 : (-nI 10).toInt < (-nI k).toInt := Int32.lt_iff_toInt_lt.mp (Int32.not_le.mp h2)
    have h4 : (-nI 10).toInt = -10 := by decide +kernel
    have h5 : (-9 : Int32).toInt = -9 := by decide +kernel
    rw [Int32.le_iff_toInt_le, h5]
    omega
theorem j_getChars {h : AH} {d bc bs n : Nat} {a m k E : Nat} {f g6 g7 : Nat → Int32} (ha : h a = .inl (2, m, .inl f)) (hf : bfit f) (ha0 : 100 ≤ a) (hg6 : h 6 = .inl (2, 100, .inl g6)) (hg7 : h 7 = .inl (2, 100, .inl g7)) (hk : k < 100) (hE : E ≤ m) (hdE : dgt k ≤ E) (hm : m ≤ 2000) : SM SR0 MJ6_getChars_ba4f3 d bc bs [.int (nI k), .int (nI E), .ref a] h n (BUo h n a m (some (.int (nI (E - dgt k))))) := by
  refine sm_of pn_java_lang_Integer rfl (Nat.le_of_ble_eq_true rfl) ?_
  refine sw_iload_n (pc' := 1) rfl dJ6_getChars_ba4f3_0 rfl ?_
  refine sw_istore (pc' := 3) (lv' := [(5, _), (0, _), (1, _), (2, _)]) rfl dJ6_getChars_ba4f3_1 (by decide +kernel) rfl ?_
  refine sw_iload_n (pc' := 4) rfl dJ6_getChars_ba4f3_3 rfl ?_
  refine sw_if_ge (pc' := 7) (tgt := 11) rfl dJ6_getChars_ba4f3_4 (by decide +kernel) (fun c4 => ?_) (fun c4 => ?_)
  · refine sw_iconst (pc' := 12) (v := 0) rfl dJ6_getChars_ba4f3_11 (by decide +kernel) ?_
    refine sw_istore (pc' := 14) (lv' := [(6, _), (5, _), (0, _), (1, _), (2, _)]) rfl dJ6_getChars_ba4f3_12 (by decide +kernel) rfl ?_
    refine sw_iload (pc' := 16) rfl dJ6_getChars_ba4f3_14 rfl ?_
    refine sw_if_ne (pc' := 19) (tgt := 22) rfl dJ6_getChars_ba4f3_16 (by decide +kernel) (fun c16 => ?_) (fun c16 => ?_)
    · exact absurd c16 (by decide +kernel)
    · refine sw_iload_n (pc' := 20) rfl dJ6_getChars_ba4f3_19 rfl ?_
      refine sw_ineg (pc' := 21) rfl dJ6_getChars_ba4f3_20 ?_
      refine sw_istore_n (pc' := 22) (lv' := [(0, _), (6, _), (5, _), (1, _), (2, _)]) rfl dJ6_getChars_ba4f3_21 (by decide +kernel) rfl ?_
      refine sw_iload_n (pc' := 23) rfl dJ6_getChars_ba4f3_22 rfl ?_
      refine sw_bipush (pc' := 25) (v := (-100)) rfl dJ6_getChars_ba4f3_23 (by decide +kernel) ?_
      refine sw_icmp_gt (pc' := 28) (tgt := 72) rfl dJ6_getChars_ba4f3_25 (by decide +kernel) (fun c25 => ?_) (fun c25 => ?_)
      · have hd1 : 1 ≤ dgt k := by unfold dgt; split <;> omega
        refine sw_aload_n (pc' := 73) rfl dJ6_getChars_ba4f3_72 rfl ?_
        refine sw_iinc (pc' := 76) (lv' := [(5, _), (0, _), (6, _), (1, _), (2, _)]) (v := nI (E - 1)) rfl dJ6_getChars_ba4f3_73 rfl ((i_m1 _).trans (nI_m1 (by omega))) (by decide +kernel) rfl ?_
        refine sw_iload (pc' := 78) rfl dJ6_getChars_ba4f3_76 rfl ?_
        refine sw_gets (pc' := 81) rfl dJ6_getChars_ba4f3_78 (v := .ref 7) (by decide +kernel) w_826 ?_
        refine sw_iload_n (pc' := 82) rfl dJ6_getChars_ba4f3_81 rfl ?_
        refine sw_ineg (pc' := 83) rfl dJ6_getChars_ba4f3_82 ?_
        rw [neg_neg']
        refine sw_bald (j := k) (pc' := 84) rfl dJ6_getChars_ba4f3_83 hg7 rfl (by omega) (by decide +kernel) ?_
        refine sw_bast (j := E - 1) (pc' := 85) rfl dJ6_getChars_ba4f3_84 ha (by show 100 ≤ _; omega) rfl (by omega) (by omega) ?_
        refine sw_nm (fun g1 eg1 => ?_)
        have zg1 := (congrFun eg1 a).trans (up_s (h := h) (i := a))
        refine sw_iload_n (pc' := 86) rfl dJ6_getChars_ba4f3_85 rfl ?_
        refine sw_bipush (pc' := 88) (v := (-9)) rfl dJ6_getChars_ba4f3_86 (by decide +kernel) ?_
        refine sw_icmp_ge (pc' := 91) (tgt := 104) rfl dJ6_getChars_ba4f3_88 (by decide +kernel) (fun c88 => ?_) (fun c88 => ?_)
        · refine sw_iload (pc' := 106) rfl dJ6_getChars_ba4f3_104 rfl ?_
          refine sw_if_eq (pc' := 109) (tgt := 118) rfl dJ6_getChars_ba4f3_106 (by decide +kernel) (fun c106 => ?_) (fun c106 => ?_)
          · refine sw_iload (pc' := 120) rfl dJ6_getChars_ba4f3_118 rfl ?_
            refine sw_ret (v := some _) ⟨dJ6_getChars_ba4f3_120, _, rfl, rfl⟩ ?_
            rw [show dgt k = 1 from if_pos ((gch9c hk).mp c88)]
            exact ⟨rfl, rfl, ⟨_, zg1, bfit_up hf⟩, fun i h1 => (congrFun eg1 i).trans ((up_n h1).trans (rfl))⟩
          · exact absurd c106 (by decide +kernel)
        · have k10 : ¬ k < 10 := fun g => c88 ((gch9c hk).mpr g)
          have hd2 : dgt k = 2 := if_neg k10
          refine sw_aload_n (pc' := 92) rfl dJ6_getChars_ba4f3_91 rfl ?_
          refine sw_iinc (pc' := 95) (lv' := [(5, _), (0, _), (6, _), (1, _), (2, _)]) (v := nI (E - 1 - 1)) rfl dJ6_getChars_ba4f3_92 rfl ((i_m1 _).trans (nI_m1 (by omega))) (by decide +kernel) rfl ?_
          refine sw_iload (pc' := 97) rfl dJ6_getChars_ba4f3_95 rfl ?_
          refine sw_gets (pc' := 100) rfl dJ6_getChars_ba4f3_97 (v := .ref 6) (by decide +kernel) w_828 ?_
          refine sw_iload_n (pc' := 101) rfl dJ6_getChars_ba4f3_100 rfl ?_
          refine sw_ineg (pc' := 102) rfl dJ6_getChars_ba4f3_101 ?_
          rw [neg_neg']
          refine sw_bald (j := k) (pc' := 103) rfl dJ6_getChars_ba4f3_102 (((congrFun eg1 6).trans (up_n (by omega))).trans hg6) rfl (by omega) (by decide +kernel) ?_
          refine sw_bast (j := E - 1 - 1) (pc' := 104) rfl dJ6_getChars_ba4f3_103 zg1 (by show 100 ≤ _; omega) rfl (by omega) (by omega) ?_
          refine sw_nm (fun g2 eg2 => ?_)
          have zg2 := (congrFun eg2 a).trans (up_s (h := g1) (i := a))
          refine sw_iload (pc' := 106) rfl dJ6_getChars_ba4f3_104 rfl ?_
          refine sw_if_eq (pc' := 109) (tgt := 118) rfl dJ6_getChars_ba4f3_106 (by decide +kernel) (fun c106 => ?_) (fun c106 => ?_)
          · refine sw_iload (pc' := 120) rfl dJ6_getChars_ba4f3_118 rfl ?_
            refine sw_ret (v := some _) ⟨dJ6_getChars_ba4f3_120, _, rfl, rfl⟩ ?_
            rw [show dgt k = 2 from if_neg (fun g => c88 ((gch9c hk).mpr g))]
            exact ⟨rfl, rfl, ⟨_, zg2, bfit_up (bfit_up hf)⟩, fun i h1 => (congrFun eg2 i).trans ((up_n h1).trans ((congrFun eg1 i).trans ((up_n h1).trans (rfl))))⟩
          · exact absurd c106 (by decide +kernel)
      · exact absurd ((neg_le (L := 100) hk (by omega)).mp (Int32.not_lt.mp c25)) (by omega)
  · exact absurd (nI_pos' (by omega)) c4
theorem j_appendI5 {h : AH} {d bc bs n : Nat} {n1 n0 b N m k : Nat} (hS : SbF h n1 n0 b N m) (hn1 : n1 ≤ n) (h0 : 100 ≤ n0) (hm : m ≤ 2000) (hT : TXT h) (hk : k < 100) (hN : N + 2 ≤ 1000) (hd : 5 ≤ d) (h1 : 1 ≤ bc) (h2 : grC m (N + dgt k) ≤ bs) : SM SR0 MJ5_append_c97b9 d bc bs [.ref b, .int (nI k)] h n (SBo h n n1 n0 b (N + dgt k) (capN m (N + dgt k)) (some (.ref b))) := by
  obtain ⟨a0, f0, fl0, hS0, -⟩ := id hS
  have hbb := hS.lt
  have hrm := hS.rm
  refine sm_of pn_java_lang_AbstractStringBuilder rfl (Nat.le_of_ble_eq_true rfl) ?_
  refine sw_aload_n (pc' := 1) rfl dJ5_append_c97b9_0 rfl ?_
  refine sw_getf (ci := 1) (k := 3) (pc' := 4) rfl dJ5_append_c97b9_1 (by decide +kernel) w_702 hS0 rfl ?_
  refine sw_istore_n (pc' := 5) (lv' := [(2, _), (0, _), (1, _)]) rfl dJ5_append_c97b9_4 (by decide +kernel) rfl ?_
  refine sw_iload_n (pc' := 6) rfl dJ5_append_c97b9_5 rfl ?_
  refine sw_iload_n (pc' := 7) rfl dJ5_append_c97b9_6 rfl ?_
  refine sw_S (M' := MJ6_stringSize_0f7a4) (d' := d - 1) (bc' := 0) (bs' := 0) (as := [_]) dJ5_append_c97b9_7 w_820 ok_J6_stringSize_0f7a4 (j_stringSize hk) (by omega) (Nat.le_of_ble_eq_true rfl) (Nat.zero_le _) (Nat.zero_le _) (fun E h' n' _ z => det_x z) (det_k ?_)
  have hdg : 1 ≤ dgt k ∧ dgt k ≤ 2 := by unfold dgt; split <;> omega
  refine sw_iadd (pc' := 11) rfl dJ5_append_c97b9_10 ?_
  rw [show (nI N) + (nI (dgt k)) = nI (N + dgt k) from nI_add _ _]
  refine sw_istore_n (pc' := 12) (lv' := [(3, _), (2, _), (0, _), (1, _)]) rfl dJ5_append_c97b9_11 (by decide +kernel) rfl ?_
  refine sw_aload_n (pc' := 13) rfl dJ5_append_c97b9_12 rfl ?_
  refine sw_iload_n (pc' := 14) rfl dJ5_append_c97b9_13 rfl ?_
  refine sw_callU (M' := MJ5_ensureCapacityInternal_d00df) (x := ({ cls := "java/lang/AbstractStringBuilder", name := "ensureCapacityInternal", desc := "(I)V" } : Jvm.MethodName)) (d' := d - 1) (bc' := 1) (bs' := (grC m (N + dgt k))) (ci := 1) (as := [_]) dJ5_append_c97b9_14 w_722 w_1487 rfl w_724 w_1498 w_53 (by unfold cwM; exact w_725) (by decide +kernel) (show _ = some 1 by decide +kernel) rfl (by omega) (by decide +kernel) (j_ensure hS hn1 h0 (by omega) (by omega) hm (by omega) (by omega) (Nat.le_refl _)) hS0 (Nat.le_of_ble_eq_true rfl) (by omega) (by omega) (seo_k (fun p pn pk pS pF => ?_)) (fun E h' n' _ z => seo_x z)
  obtain ⟨pa, pf, pfl, pb, ph, pfit, pNm, pa0, pan, pb0, pbn, pba, pax⟩ := id pS
  obtain ⟨-, hp1, hp2, hp3⟩ := pot (m := m) (q := N + dgt k) (K := 2000) (by omega) (by omega)
  refine sw_aload_n (pc' := 18) rfl dJ5_append_c97b9_17 rfl ?_
  refine sw_callU (M' := MJ5_isLatin1_aae02) (x := ({ cls := "java/lang/AbstractStringBuilder", name := "isLatin1", desc := "()Z" } : Jvm.MethodName)) (d' := d - 1) (bc' := 0) (bs' := 0) (ci := 1) (as := []) dJ5_append_c97b9_18 w_757 w_759 rfl w_758 w_760 w_53 (by unfold cwM; exact w_761) (by decide +kernel) (show _ = some 0 by decide +kernel) rfl (by omega) (by decide +kernel) (j_isLatin1 pb) pb (Nat.le_of_ble_eq_true rfl) (Nat.zero_le _) (Nat.zero_le _) (det_k ?_) (fun E h' n' _ z => det_x z)
  refine sw_if_eq (pc' := 24) (tgt := 37) rfl dJ5_append_c97b9_21 (by decide +kernel) (fun c21 => ?_) (fun c21 => ?_)
  · exact absurd c21 (by decide +kernel)
  · refine sw_iload_n (pc' := 25) rfl dJ5_append_c97b9_24 rfl ?_
    refine sw_iload_n (pc' := 26) rfl dJ5_append_c97b9_25 rfl ?_
    refine sw_aload_n (pc' := 27) rfl dJ5_append_c97b9_26 rfl ?_
    refine sw_getf (ci := 1) (k := 0) (pc' := 30) rfl dJ5_append_c97b9_27 (by decide +kernel) w_699 pb rfl ?_
    obtain ⟨⟨g6, hg6⟩, ⟨g7, hg7⟩, -⟩ := id hT
    refine sw_S (M' := MJ6_getChars_ba4f3) (d' := d - 1) (bc' := 0) (bs' := 0) (as := [_, _, _]) dJ5_append_c97b9_30 w_823 ok_J6_getChars_ba4f3 (j_getChars (k := k) (E := N + dgt k) ph pfit (by omega) ((pF 6 (by omega)).trans hg6) ((pF 7 (by omega)).trans hg7) hk (by omega) (by omega) (by omega)) (by omega) (Nat.le_of_ble_eq_true rfl) (Nat.zero_le _) (Nat.zero_le _) (fun E h' n' _ z => buo_x z) (buo_k (fun q qf9 qN qfit9 qF9 => ?_))
    refine sw_pop (pc' := 34) rfl dJ5_append_c97b9_33 rfl ?_
    refine sw_goto (tgt := 48) dJ5_append_c97b9_34 (by decide +kernel) ?_
    refine sw_aload_n (pc' := 49) rfl dJ5_append_c97b9_48 rfl ?_
    refine sw_iload_n (pc' := 50) rfl dJ5_append_c97b9_49 rfl ?_
    refine sw_putf (ci := 1) (k := 3) (pc' := 53) rfl dJ5_append_c97b9_50 (by decide +kernel) (by decide +kernel) w_702 rfl ((qF9 b pba).trans pb) (by show 100 ≤ _; omega) (Nat.le_of_ble_eq_true rfl) rfl rfl ?_
    refine sw_nm (fun g1 eg1 => ?_)
    have zg1 := (congrFun eg1 b).trans (up_s (h := q) (i := b))
    refine sw_aload_n (pc' := 54) rfl dJ5_append_c97b9_53 rfl ?_
    refine sw_ret (v := some _) ⟨dJ5_append_c97b9_54, _, rfl, Or.inl ⟨_, rfl⟩⟩ ?_
    exact ⟨rfl, pk, ⟨pa, qf9, pfl, zg1, (congrFun eg1 pa).trans ((up_n (by omega)).trans (qN)), qfit9, by omega, pa0, pan, pb0, pbn, pba⟩, fun i hi => (congrFun eg1 i).trans ((up_n (by omega)).trans ((qF9 i (by omega)).trans (pF i hi)))⟩
theorem j_appendI {h : AH} {d bc bs n : Nat} {n1 n0 b N m k : Nat} (hS : SbF h n1 n0 b N m) (hn1 : n1 ≤ n) (h0 : 100 ≤ n0) (hm : m ≤ 2000) (hT : TXT h) (hk : k < 100) (hN : N + 2 ≤ 1000) (hd : 6 ≤ d) (h1 : 1 ≤ bc) (h2 : grC m (N + dgt k) ≤ bs) : SM SR0 MJ4_append_bf812 d bc bs [.ref b, .int (nI k)] h n (SBo h n n1 n0 b (N + dgt k) (capN m (N + dgt k)) (some (.ref b))) := by
  obtain ⟨a0, f0, fl0, hS0, -⟩ := id hS
  have hbb := hS.lt
  have hrm := hS.rm
  refine sm_of pn_java_lang_StringBuilder rfl (Nat.le_of_ble_eq_true rfl) ?_
  refine sw_aload_n (pc' := 1) rfl dJ4_append_bf812_0 rfl ?_
  refine sw_iload_n (pc' := 2) rfl dJ4_append_bf812_1 rfl ?_
  refine sw_callSU (M' := MJ5_append_c97b9) (d' := d - 1) (bc' := 1) (bs' := (grC m (N + dgt k))) (ci := 1) (as := [_]) dJ4_append_bf812_2 w_817 w_1490 (by decide +kernel) (by decide +kernel) w_818 w_711 w_53 (by unfold cwM; exact w_819) (show _ = some 1 by decide +kernel) rfl (by omega) (by decide +kernel) (j_appendI5 hS hn1 h0 hm hT hk hN (by omega) (by omega) (Nat.le_refl _)) hS0 (Nat.le_of_ble_eq_true rfl) (by omega) (by omega) (sbo_k (fun p pn pk pS pF => ?_)) (fun E h' n' _ z => sbo_x z)
  refine sw_pop (pc' := 6) rfl dJ4_append_bf812_5 rfl ?_
  refine sw_aload_n (pc' := 7) rfl dJ4_append_bf812_6 rfl ?_
  refine sw_ret (v := some _) ⟨dJ4_append_bf812_7, _, rfl, Or.inl ⟨_, rfl⟩⟩ ?_
  exact ⟨rfl, pk, pS, pF⟩
theorem j_coder {h : AH} {d bc bs n : Nat} {t v : Nat} {rv : List Value} (ht : h t = .inr (0, .ref v :: .int 0 :: rv)) : SM SR0 MJ0_coder_7d493 d bc bs [.ref t] h n (Det (rI (0)) h n) := by
  refine sm_of pn_java_lang_String rfl (Nat.le_of_ble_eq_true rfl) ?_
  refine sw_gets (pc' := 3) rfl dJ0_coder_7d493_0 (v := .int 1) (by decide +kernel) w_910 ?_
  refine sw_if_eq (pc' := 6) (tgt := 13) rfl dJ0_coder_7d493_3 (by decide +kernel) (fun c3 => ?_) (fun c3 => ?_)
  · exact absurd c3 (by decide +kernel)
  · refine sw_aload_n (pc' := 7) rfl dJ0_coder_7d493_6 rfl ?_
    refine sw_getf (ci := 0) (k := 1) (pc' := 10) rfl dJ0_coder_7d493_7 (by decide +kernel) w_942 ht rfl ?_
    refine sw_goto (tgt := 14) dJ0_coder_7d493_10 (by decide +kernel) ?_
    refine sw_ret (v := some _) ⟨dJ0_coder_7d493_14, _, rfl, rfl⟩ ?_
    exact ⟨rfl, rfl, rfl⟩
theorem j_slen {h : AH} {d bc bs n : Nat} {t L m0 : Nat} (hU : StF h m0 t L) (hd : 1 ≤ d) : SM SR0 MJ0_length_8abf5 d bc bs [.ref t] h n (Det (rI (nI L)) h n) := by
  obtain ⟨v, fv, rv, ht, hv, hfv, htn, hvn⟩ := hU
  refine sm_of pn_java_lang_String rfl (Nat.le_of_ble_eq_true rfl) ?_
  refine sw_aload_n (pc' := 1) rfl dJ0_length_8abf5_0 rfl ?_
  refine sw_getf (ci := 0) (k := 0) (pc' := 4) rfl dJ0_length_8abf5_1 (by decide +kernel) w_941 ht rfl ?_
  refine sw_alen (pc' := 5) rfl dJ0_length_8abf5_4 hv (by decide +kernel) (Or.inr ⟨by decide +kernel, _, rfl⟩) ?_
  refine sw_aload_n (pc' := 6) rfl dJ0_length_8abf5_5 rfl ?_
  refine sw_V (M' := MJ0_coder_7d493) (d' := d - 1) (bc' := 0) (bs' := 0) (ci := 0) (as := []) dJ0_length_8abf5_6 w_906 ok_J0_coder_7d493 (j_coder ht) ht rfl (by omega) (Nat.le_of_ble_eq_true rfl) (Nat.zero_le _) (Nat.zero_le _) (fun E h' n' _ z => det_x z) (det_k ?_)
  refine sw_ishr (pc' := 10) rfl dJ0_length_8abf5_9 ?_
  rw [shr0]
  refine sw_ret (v := some _) ⟨dJ0_length_8abf5_10, _, rfl, rfl⟩ ?_
  exact ⟨rfl, rfl, rfl⟩
theorem j_sempty {h : AH} {d bc bs n : Nat} {t L m0 : Nat} (hU : StF h m0 t L) (hL : L ≤ 2000) : SM SR0 MJ0_isEmpty_aae02 d bc bs [.ref t] h n (Det (rI (bI (decide (L = 0)))) h n) := by
  obtain ⟨v, fv, rv, ht, hv, hfv, htn, hvn⟩ := hU
  refine sm_of pn_java_lang_String rfl (Nat.le_of_ble_eq_true rfl) ?_
  refine sw_aload_n (pc' := 1) rfl dJ0_isEmpty_aae02_0 rfl ?_
  refine sw_getf (ci := 0) (k := 0) (pc' := 4) rfl dJ0_isEmpty_aae02_1 (by decide +kernel) w_941 ht rfl ?_
  refine sw_alen (pc' := 5) rfl dJ0_isEmpty_aae02_4 hv (by decide +kernel) (Or.inr ⟨by decide +kernel, _, rfl⟩) ?_
  refine sw_if_ne (pc' := 8) (tgt := 12) rfl dJ0_isEmpty_aae02_5 (by decide +kernel) (fun c5 => ?_) (fun c5 => ?_)
  · refine sw_iconst (pc' := 13) (v := 0) rfl dJ0_isEmpty_aae02_12 (by decide +kernel) ?_
    refine sw_ret (v := some _) ⟨dJ0_isEmpty_aae02_13, _, rfl, rfl⟩ ?_
    rw [decide_eq_false (fun e => c5 (by rw [e]; rfl))]
    exact ⟨rfl, rfl, rfl⟩
  · refine sw_iconst (pc' := 9) (v := 1) rfl dJ0_isEmpty_aae02_8 (by decide +kernel) ?_
    refine sw_goto (tgt := 13) dJ0_isEmpty_aae02_9 (by decide +kernel) ?_
    refine sw_ret (v := some _) ⟨dJ0_isEmpty_aae02_13, _, rfl, rfl⟩ ?_
    rw [decide_eq_true ((nI_eq (b := 0) (by omega) (by decide +kernel)).mp c5)]
    exact ⟨rfl, rfl, rfl⟩
theorem j_inflate {h : AH} {d bc bs n : Nat} {b t a v : Nat} {fl x : Int32} {rv : List Value} (hb : h b = .inr (1, [.ref a, .int 0, .int fl, .int x])) (ht : h t = .inr (0, .ref v :: .int 0 :: rv)) (hd : 1 ≤ d) : SM SR0 MJ5_inflateIfNeededFor_a7421 d bc bs [.ref b, .ref t] h n (Det ivN h n) := by
  refine sm_of pn_java_lang_AbstractStringBuilder rfl (Nat.le_of_ble_eq_true rfl) ?_
  refine sw_gets (pc' := 3) rfl dJ5_inflateIfNeededFor_a7421_0 (v := .int 1) (by decide +kernel) w_690 ?_
  refine sw_if_eq (pc' := 6) (tgt := 21) rfl dJ5_inflateIfNeededFor_a7421_3 (by decide +kernel) (fun c3 => ?_) (fun c3 => ?_)
  · exact absurd c3 (by decide +kernel)
  · refine sw_aload_n (pc' := 7) rfl dJ5_inflateIfNeededFor_a7421_6 rfl ?_
    refine sw_getf (ci := 1) (k := 1) (pc' := 10) rfl dJ5_inflateIfNeededFor_a7421_7 (by decide +kernel) w_700 hb rfl ?_
    refine sw_aload_n (pc' := 11) rfl dJ5_inflateIfNeededFor_a7421_10 rfl ?_
    refine sw_V (M' := MJ0_coder_7d493) (d' := d - 1) (bc' := 0) (bs' := 0) (ci := 0) (as := []) dJ5_inflateIfNeededFor_a7421_11 w_919 ok_J0_coder_7d493 (j_coder ht) ht rfl (by omega) (Nat.le_of_ble_eq_true rfl) (Nat.zero_le _) (Nat.zero_le _) (fun E h' n' _ z => det_x z) (det_k ?_)
    refine sw_icmp_eq (pc' := 17) (tgt := 21) rfl dJ5_inflateIfNeededFor_a7421_14 (by decide +kernel) (fun c14 => ?_) (fun c14 => ?_)
    · refine sw_ret (v := none) ⟨dJ5_inflateIfNeededFor_a7421_21, rfl⟩ ?_
      exact ⟨rfl, rfl, rfl⟩
    · exact absurd c14 (by decide +kernel)
theorem j_getBytes {h : AH} {d bc bs n : Nat} {a v t m L N : Nat} {f fv : Nat → Int32} {rv : List Value} (ht : h t = .inr (0, .ref v :: .int 0 :: rv)) (hv : h v = .inl (2, L, .inl fv)) (hfv : bfit fv) (ha : h a = .inl (2, m, .inl f)) (hf : bfit f) (ha0 : 100 ≤ a) (hNL : N + L ≤ m) (hm : m ≤ 2000) (hd : 1 ≤ d) : SM SR0 MJ0_getBytes_840e7 d bc bs [.ref t, .ref a, .int (nI N), .int 0] h n (BUo h n a m none) := by
  refine sm_of pn_java_lang_String rfl (Nat.le_of_ble_eq_true rfl) ?_
  refine sw_aload_n (pc' := 1) rfl dJ0_getBytes_840e7_0 rfl ?_
  refine sw_V (M' := MJ0_coder_7d493) (d' := d - 1) (bc' := 0) (bs' := 0) (ci := 0) (as := []) dJ0_getBytes_840e7_1 w_906 ok_J0_coder_7d493 (j_coder ht) ht rfl (by omega) (Nat.le_of_ble_eq_true rfl) (Nat.zero_le _) (Nat.zero_le _) (fun E h' n' _ z => det_x z) (det_k ?_)
  refine sw_iload_n (pc' := 5) rfl dJ0_getBytes_840e7_4 rfl ?_
  refine sw_icmp_ne (pc' := 8) (tgt := 28) rfl dJ0_getBytes_840e7_5 (by decide +kernel) (fun c5 => ?_) (fun c5 => ?_)
  · exact absurd c5 (by decide +kernel)
  · refine sw_aload_n (pc' := 9) rfl dJ0_getBytes_840e7_8 rfl ?_
    refine sw_getf (ci := 0) (k := 0) (pc' := 12) rfl dJ0_getBytes_840e7_9 (by decide +kernel) w_941 ht rfl ?_
    refine sw_iconst (pc' := 13) (v := 0) rfl dJ0_getBytes_840e7_12 (by decide +kernel) ?_
    refine sw_aload_n (pc' := 14) rfl dJ0_getBytes_840e7_13 rfl ?_
    refine sw_iload_n (pc' := 15) rfl dJ0_getBytes_840e7_14 rfl ?_
    refine sw_iload_n (pc' := 16) rfl dJ0_getBytes_840e7_15 rfl ?_
    refine sw_ishl (pc' := 17) rfl dJ0_getBytes_840e7_16 ?_
    rw [shl0]
    refine sw_aload_n (pc' := 18) rfl dJ0_getBytes_840e7_17 rfl ?_
    refine sw_getf (ci := 0) (k := 0) (pc' := 21) rfl dJ0_getBytes_840e7_18 (by decide +kernel) w_941 ht rfl ?_
    refine sw_alen (pc' := 22) rfl dJ0_getBytes_840e7_21 hv (by decide +kernel) (Or.inr ⟨by decide +kernel, _, rfl⟩) ?_
    refine sw_copyB (pc' := 25) (sp := 0) (dp := N) (k := L) rfl dJ0_getBytes_840e7_22 w_924 w_756 w_755 w_59 hv ha (by show 100 ≤ _; omega) hfv (by omega) (by omega) rfl rfl rfl (by omega) (by omega) (Nat.le_of_ble_eq_true rfl) ?_
    refine sw_nm (fun g1 eg1 => ?_)
    have zg1 := (congrFun eg1 a).trans (up_s (h := h) (i := a))
    refine sw_goto (tgt := 43) dJ0_getBytes_840e7_25 (by decide +kernel) ?_
    refine sw_ret (v := none) ⟨dJ0_getBytes_840e7_43, rfl⟩ ?_
    exact ⟨rfl, rfl, ⟨_, zg1, bfit_cpy hfv hf⟩, fun i h1 => (congrFun eg1 i).trans ((up_n h1).trans (rfl))⟩
theorem j_putStringAt {h : AH} {d bc bs n : Nat} {b a v t m L N : Nat} {f fv : Nat → Int32} {rv : List Value} {fl x : Int32} (hb : h b = .inr (1, [.ref a, .int 0, .int fl, .int x])) (ht : h t = .inr (0, .ref v :: .int 0 :: rv)) (hv : h v = .inl (2, L, .inl fv)) (hfv : bfit fv) (ha : h a = .inl (2, m, .inl f)) (hf : bfit f) (ha0 : 100 ≤ a) (hNL : N + L ≤ m) (hm : m ≤ 2000) (hd : 3 ≤ d) : SM SR0 MJ5_putStringAt_47b60 d bc bs [.ref b, .int (nI N), .ref t] h n (BUo h n a m none) := by
  refine sm_of pn_java_lang_AbstractStringBuilder rfl (Nat.le_of_ble_eq_true rfl) ?_
  refine sw_aload_n (pc' := 1) rfl dJ5_putStringAt_47b60_0 rfl ?_
  refine sw_aload_n (pc' := 2) rfl dJ5_putStringAt_47b60_1 rfl ?_
  refine sw_callU (M' := MJ5_inflateIfNeededFor_a7421) (x := ({ cls := "java/lang/AbstractStringBuilder", name := "inflateIfNeededFor", desc := "(Ljava/lang/String;)V" } : Jvm.MethodName)) (d' := d - 1) (bc' := 0) (bs' := 0) (ci := 1) (as := [_]) dJ5_putStringAt_47b60_2 w_915 w_1494 rfl w_917 w_1503 w_53 (by unfold cwM; exact w_918) (by decide +kernel) (show _ = some 1 by decide +kernel) rfl (by omega) (by decide +kernel) (j_inflate hb ht (by omega)) hb (Nat.le_of_ble_eq_true rfl) (Nat.zero_le _) (Nat.zero_le _) (det_k ?_) (fun E h' n' _ z => det_x z)
  refine sw_aload_n (pc' := 6) rfl dJ5_putStringAt_47b60_5 rfl ?_
  refine sw_aload_n (pc' := 7) rfl dJ5_putStringAt_47b60_6 rfl ?_
  refine sw_getf (ci := 1) (k := 0) (pc' := 10) rfl dJ5_putStringAt_47b60_7 (by decide +kernel) w_699 hb rfl ?_
  refine sw_iload_n (pc' := 11) rfl dJ5_putStringAt_47b60_10 rfl ?_
  refine sw_aload_n (pc' := 12) rfl dJ5_putStringAt_47b60_11 rfl ?_
  refine sw_getf (ci := 1) (k := 1) (pc' := 15) rfl dJ5_putStringAt_47b60_12 (by decide +kernel) w_700 hb rfl ?_
  refine sw_V (M' := MJ0_getBytes_840e7) (d' := d - 1) (bc' := 0) (bs' := 0) (ci := 0) (as := [_, _, _]) dJ5_putStringAt_47b60_15 w_920 ok_J0_getBytes_840e7 (j_getBytes (N := N) ht hv hfv ha hf ha0 hNL hm (by omega)) ht rfl (by omega) (Nat.le_of_ble_eq_true rfl) (Nat.zero_le _) (Nat.zero_le _) (fun E h' n' _ z => buo_x z) (buo_k (fun q qf9 qN qfit9 qF9 => ?_))
  refine sw_ret (v := none) ⟨dJ5_putStringAt_47b60_18, rfl⟩ ?_
  exact ⟨rfl, rfl, ⟨_, qN, qfit9⟩, qF9⟩
theorem j_appendS5 {h : AH} {d bc bs n : Nat} {n1 n0 b N m t L : Nat} (hS : SbF h n1 n0 b N m) (hn1 : n1 ≤ n) (h0 : 100 ≤ n0) (hm : m ≤ 2000) (hU : StK h n n1 n0 t L) (hN : N + L ≤ 1000) (hd : 6 ≤ d) (h1 : 1 ≤ bc) (h2 : grC m (N + L) ≤ bs) : SM SR0 MJ5_append_cf1ce d bc bs [.ref b, .ref t] h n (SBo h n n1 n0 b (N + L) (capN m (N + L)) (some (.ref b))) := by
  obtain ⟨a0, f0, fl0, hS0, -⟩ := id hS
  have hbb := hS.lt
  have hrm := hS.rm
  obtain ⟨v, fv, rv, ht, hv, hfv, htn, hvn⟩ := hU
  refine sm_of pn_java_lang_AbstractStringBuilder rfl (Nat.le_of_ble_eq_true rfl) ?_
  refine sw_aload_n (pc' := 1) rfl dJ5_append_cf1ce_0 rfl ?_
  refine sw_ifnonnull (tgt := 9) dJ5_append_cf1ce_1 (by decide +kernel) ?_
  refine sw_aload_n (pc' := 10) rfl dJ5_append_cf1ce_9 rfl ?_
  refine sw_V (M' := MJ0_length_8abf5) (d' := d - 1) (bc' := 0) (bs' := 0) (ci := 0) (as := []) dJ5_append_cf1ce_10 w_902 ok_J0_length_8abf5 (j_slen (m0 := n) ⟨v, fv, rv, ht, hv, hfv, by omega, by omega⟩ (by omega)) ht rfl (by omega) (Nat.le_of_ble_eq_true rfl) (Nat.zero_le _) (Nat.zero_le _) (fun E h' n' _ z => det_x z) (det_k ?_)
  refine sw_istore_n (pc' := 14) (lv' := [(2, _), (0, _), (1, _)]) rfl dJ5_append_cf1ce_13 (by decide +kernel) rfl ?_
  refine sw_aload_n (pc' := 15) rfl dJ5_append_cf1ce_14 rfl ?_
  refine sw_aload_n (pc' := 16) rfl dJ5_append_cf1ce_15 rfl ?_
  refine sw_getf (ci := 1) (k := 3) (pc' := 19) rfl dJ5_append_cf1ce_16 (by decide +kernel) w_702 hS0 rfl ?_
  refine sw_iload_n (pc' := 20) rfl dJ5_append_cf1ce_19 rfl ?_
  refine sw_iadd (pc' := 21) rfl dJ5_append_cf1ce_20 ?_
  rw [show (nI N) + (nI L) = nI (N + L) from nI_add _ _]
  refine sw_callU (M' := MJ5_ensureCapacityInternal_d00df) (x := ({ cls := "java/lang/AbstractStringBuilder", name := "ensureCapacityInternal", desc := "(I)V" } : Jvm.MethodName)) (d' := d - 1) (bc' := 1) (bs' := (grC m (N + L))) (ci := 1) (as := [_]) dJ5_append_cf1ce_21 w_722 w_1487 rfl w_724 w_1498 w_53 (by unfold cwM; exact w_725) (by decide +kernel) (show _ = some 1 by decide +kernel) rfl (by omega) (by decide +kernel) (j_ensure hS hn1 h0 (by omega) (by omega) hm (by omega) (by omega) (Nat.le_refl _)) hS0 (Nat.le_of_ble_eq_true rfl) (by omega) (by omega) (seo_k (fun p pn pk pS pF => ?_)) (fun E h' n' _ z => seo_x z)
  obtain ⟨pa, pf, pfl, pb, ph, pfit, pNm, pa0, pan, pb0, pbn, pba, pax⟩ := id pS
  obtain ⟨-, hp1, hp2, hp3⟩ := pot (m := m) (q := N + L) (K := 2000) (by omega) (by omega)
  refine sw_aload_n (pc' := 25) rfl dJ5_append_cf1ce_24 rfl ?_
  refine sw_aload_n (pc' := 26) rfl dJ5_append_cf1ce_25 rfl ?_
  refine sw_getf (ci := 1) (k := 3) (pc' := 29) rfl dJ5_append_cf1ce_26 (by decide +kernel) w_702 pb rfl ?_
  refine sw_aload_n (pc' := 30) rfl dJ5_append_cf1ce_29 rfl ?_
  refine sw_callU (M' := MJ5_putStringAt_47b60) (x := ({ cls := "java/lang/AbstractStringBuilder", name := "putStringAt", desc := "(ILjava/lang/String;)V" } : Jvm.MethodName)) (d' := d - 1) (bc' := 0) (bs' := 0) (ci := 1) (as := [_, _]) dJ5_append_cf1ce_30 w_911 w_1493 rfl w_913 w_1502 w_53 (by unfold cwM; exact w_914) (by decide +kernel) (show _ = some 2 by decide +kernel) rfl (by omega) (by decide +kernel) (j_putStringAt (N := N) pb ((pF t htn).trans ht) ((pF v hvn).trans hv) hfv ph pfit (by omega) (by omega) (by omega) (by omega)) pb (Nat.le_of_ble_eq_true rfl) (Nat.zero_le _) (Nat.zero_le _) (buo_k (fun q qf9 qN qfit9 qF9 => ?_)) (fun E h' n' _ z => buo_x z)
  refine sw_aload_n (pc' := 34) rfl dJ5_append_cf1ce_33 rfl ?_
  refine sw_dup (pc' := 35) rfl dJ5_append_cf1ce_34 rfl ?_
  refine sw_getf (ci := 1) (k := 3) (pc' := 38) rfl dJ5_append_cf1ce_35 (by decide +kernel) w_702 ((qF9 b pba).trans pb) rfl ?_
  refine sw_iload_n (pc' := 39) rfl dJ5_append_cf1ce_38 rfl ?_
  refine sw_iadd (pc' := 40) rfl dJ5_append_cf1ce_39 ?_
  rw [show (nI N) + (nI L) = nI (N + L) from nI_add _ _]
  refine sw_putf (ci := 1) (k := 3) (pc' := 43) rfl dJ5_append_cf1ce_40 (by decide +kernel) (by decide +kernel) w_702 rfl ((qF9 b pba).trans pb) (by show 100 ≤ _; omega) (Nat.le_of_ble_eq_true rfl) rfl rfl ?_
  refine sw_nm (fun g1 eg1 => ?_)
  have zg1 := (congrFun eg1 b).trans (up_s (h := q) (i := b))
  refine sw_aload_n (pc' := 44) rfl dJ5_append_cf1ce_43 rfl ?_
  refine sw_ret (v := some _) ⟨dJ5_append_cf1ce_44, _, rfl, Or.inl ⟨_, rfl⟩⟩ ?_
  exact ⟨rfl, pk, ⟨pa, qf9, pfl, zg1, (congrFun eg1 pa).trans ((up_n (by omega)).trans (qN)), qfit9, by omega, pa0, pan, pb0, pbn, pba⟩, fun i hi => (congrFun eg1 i).trans ((up_n (by omega)).trans ((qF9 i (by omega)).trans (pF i hi)))⟩
theorem j_appendS {h : AH} {d bc bs n : Nat} {n1 n0 b N m t L : Nat} (hS : SbF h n1 n0 b N m) (hn1 : n1 ≤ n) (h0 : 100 ≤ n0) (hm : m ≤ 2000) (hU : StK h n n1 n0 t L) (hN : N + L ≤ 1000) (hd : 7 ≤ d) (h1 : 1 ≤ bc) (h2 : grC m (N + L) ≤ bs) : SM SR0 MJ4_append_15ec4 d bc bs [.ref b, .ref t] h n (SBo h n n1 n0 b (N + L) (capN m (N + L)) (some (.ref b))) := by
  obtain ⟨a0, f0, fl0, hS0, -⟩ := id hS
  have hbb := hS.lt
  have hrm := hS.rm
  refine sm_of pn_java_lang_StringBuilder rfl (Nat.le_of_ble_eq_true rfl) ?_
  refine sw_aload_n (pc' := 1) rfl dJ4_append_15ec4_0 rfl ?_
  refine sw_aload_n (pc' := 2) rfl dJ4_append_15ec4_1 rfl ?_
  refine sw_callSU (M' := MJ5_append_cf1ce) (d' := d - 1) (bc' := 1) (bs' := (grC m (N + L))) (ci := 1) (as := [_]) dJ4_append_15ec4_2 w_892 w_1491 (by decide +kernel) (by decide +kernel) w_893 w_711 w_53 (by unfold cwM; exact w_894) (show _ = some 1 by decide +kernel) rfl (by omega) (by decide +kernel) (j_appendS5 hS hn1 h0 hm hU hN (by omega) (by omega) (Nat.le_refl _)) hS0 (Nat.le_of_ble_eq_true rfl) (by omega) (by omega) (sbo_k (fun p pn pk pS pF => ?_)) (fun E h' n' _ z => sbo_x z)
  refine sw_pop (pc' := 6) rfl dJ4_append_15ec4_5 rfl ?_
  refine sw_aload_n (pc' := 7) rfl dJ4_append_15ec4_6 rfl ?_
  refine sw_ret (v := some _) ⟨dJ4_append_15ec4_7, _, rfl, Or.inl ⟨_, rfl⟩⟩ ?_
  exact ⟨rfl, pk, pS, pF⟩
theorem j_initASB {h : AH} {d bc bs n : Nat} {n0 b : Nat} (hb : h b = .inr (1, dfs 1)) (hb0 : n0 ≤ b) (hbn : b < n) (h0 : 100 ≤ n0) (h1 : 1 ≤ bc) (h2 : 16 ≤ bs) : SM SR0 MJ5_init_d00df d bc bs [.ref b, .int 16] h n (SBo h n n n0 b 0 16 none) := by
  refine sm_of pn_java_lang_AbstractStringBuilder rfl (Nat.le_of_ble_eq_true rfl) ?_
  refine sw_aload_n (pc' := 1) rfl dJ5_init_d00df_0 rfl ?_
  refine sw_objInit (pc' := 4) rfl dJ5_init_d00df_1 w_689 w_69 w_70 (Nat.le_of_ble_eq_true rfl) ?_
  refine sw_gets (pc' := 7) rfl dJ5_init_d00df_4 (v := .int 1) (by decide +kernel) w_690 ?_
  refine sw_if_eq (pc' := 10) (tgt := 25) rfl dJ5_init_d00df_7 (by decide +kernel) (fun c7 => ?_) (fun c7 => ?_)
  · exact absurd c7 (by decide +kernel)
  · refine sw_aload_n (pc' := 11) rfl dJ5_init_d00df_10 rfl ?_
    refine sw_iload_n (pc' := 12) rfl dJ5_init_d00df_11 rfl ?_
    refine sw_newa (t := 2) (len := 16) (pc' := 14) rfl dJ5_init_d00df_12 (by decide +kernel) w_352 rfl (by omega) (by omega) (by omega) ?_
    refine sw_nm (fun g1 eg1 => ?_)
    have zg1 := (congrFun eg1 n).trans (up_s (h := h) (i := n))
    refine sw_putf (ci := 1) (k := 0) (pc' := 17) rfl dJ5_init_d00df_14 (by decide +kernel) (by decide +kernel) w_699 rfl (((congrFun eg1 b).trans (up_n (by omega))).trans hb) (by show 100 ≤ _; omega) (Nat.le_of_ble_eq_true rfl) rfl rfl ?_
    refine sw_nm (fun g2 eg2 => ?_)
    have zg2 := (congrFun eg2 b).trans (up_s (h := g1) (i := b))
    refine sw_aload_n (pc' := 18) rfl dJ5_init_d00df_17 rfl ?_
    refine sw_iconst (pc' := 19) (v := 0) rfl dJ5_init_d00df_18 (by decide +kernel) ?_
    refine sw_putf (ci := 1) (k := 1) (pc' := 22) rfl dJ5_init_d00df_19 (by decide +kernel) (by decide +kernel) w_700 rfl zg2 (by show 100 ≤ _; omega) (Nat.le_of_ble_eq_true rfl) rfl rfl ?_
    refine sw_nm (fun g3 eg3 => ?_)
    have zg3 := (congrFun eg3 b).trans (up_s (h := g2) (i := b))
    refine sw_goto (tgt := 38) dJ5_init_d00df_22 (by decide +kernel) ?_
    refine sw_ret (v := none) ⟨dJ5_init_d00df_38, rfl⟩ ?_
    exact ⟨rfl, Nat.le_succ _, ⟨n, _, 0, zg3, (((congrFun eg3 n).trans (up_n (by omega))).trans (((congrFun eg2 n).trans (up_n (by omega))).trans zg1)), bfit0, by omega, by omega, Nat.lt_succ_self _, hb0, by omega, by omega⟩, fun i hi => (congrFun eg3 i).trans ((up_n (by omega)).trans ((congrFun eg2 i).trans ((up_n (by omega)).trans ((congrFun eg1 i).trans ((up_n (by omega)).trans (rfl))))))⟩
theorem j_initSB {h : AH} {d bc bs n : Nat} {n0 b : Nat} (hb : h b = .inr (1, dfs 1)) (hb0 : n0 ≤ b) (hbn : b < n) (h0 : 100 ≤ n0) (h1 : 1 ≤ bc) (h2 : 16 ≤ bs) (hd : 1 ≤ d) : SM SR0 MJ4_init_da8c8 d bc bs [.ref b] h n (SBo h n n n0 b 0 16 none) := by
  refine sm_of pn_java_lang_StringBuilder rfl (Nat.le_of_ble_eq_true rfl) ?_
  refine sw_aload_n (pc' := 1) rfl dJ4_init_da8c8_0 rfl ?_
  refine sw_bipush (pc' := 3) (v := 16) rfl dJ4_init_da8c8_1 (by decide +kernel) ?_
  refine sw_I (M' := MJ5_init_d00df) (d' := d - 1) (bc' := 1) (bs' := 16) (as := [_]) dJ4_init_da8c8_3 w_686 ok_J5_init_d00df (j_initASB hb hb0 hbn h0 (by omega) (by omega)) (by omega) (Nat.le_of_ble_eq_true rfl) (by omega) (by omega) (fun E h' n' _ z => sbo_x z) (sbo_k (fun p pn pk pS pF => ?_))
  refine sw_ret (v := none) ⟨dJ4_init_da8c8_6, rfl⟩ ?_
  exact ⟨rfl, pk, pS, pF⟩
theorem j_checkLength {h : AH} {d bc bs n : Nat} {k : Nat} (hk : k < 2 ^ 31) : SM SR0 MJ7_checkLength_df160 d bc bs [.int 0, .int (nI k)] h n (Det ivN h n) := by
  refine sm_of pn_java_util_Arrays rfl (Nat.le_of_ble_eq_true rfl) ?_
  refine sw_iload_n (pc' := 1) rfl dJ7_checkLength_df160_0 rfl ?_
  refine sw_iload_n (pc' := 2) rfl dJ7_checkLength_df160_1 rfl ?_
  refine sw_icmp_ge (pc' := 5) (tgt := 37) rfl dJ7_checkLength_df160_2 (by decide +kernel) (fun c2 => ?_) (fun c2 => ?_)
  · refine sw_ret (v := none) ⟨dJ7_checkLength_df160_37, rfl⟩ ?_
    exact ⟨rfl, rfl, rfl⟩
  · exact absurd (nI_pos' hk) c2
theorem j_copyOfRangeByte {h : AH} {d bc bs n : Nat} {a m k : Nat} {f : Nat → Int32} (ha : h a = .inl (2, m, .inl f)) (hf : bfit f) (ha0 : 100 ≤ a) (han : a < n) (hkm : k ≤ m) (hm : m ≤ 2000) (hd : 1 ≤ d) (h1 : 1 ≤ bc) (h2 : k ≤ bs) : SM SR0 MJ7_copyOfRangeByte_39247 d bc bs [.ref a, .int 0, .int (nI k)] h n (NBo h n k) := by
  refine sm_of pn_java_util_Arrays rfl (Nat.le_of_ble_eq_true rfl) ?_
  refine sw_iload_n (pc' := 1) rfl dJ7_copyOfRangeByte_39247_0 rfl ?_
  refine sw_iload_n (pc' := 2) rfl dJ7_copyOfRangeByte_39247_1 rfl ?_
  refine sw_S (M' := MJ7_checkLength_df160) (d' := d - 1) (bc' := 0) (bs' := 0) (as := [_, _]) dJ7_copyOfRangeByte_39247_2 w_880 ok_J7_checkLength_df160 (j_checkLength (by omega)) (by omega) (Nat.le_of_ble_eq_true rfl) (Nat.zero_le _) (Nat.zero_le _) (fun E h' n' _ z => det_x z) (det_k ?_)
  refine sw_iload_n (pc' := 6) rfl dJ7_copyOfRangeByte_39247_5 rfl ?_
  refine sw_iload_n (pc' := 7) rfl dJ7_copyOfRangeByte_39247_6 rfl ?_
  refine sw_isub (pc' := 8) rfl dJ7_copyOfRangeByte_39247_7 ?_
  rw [show nI k - 0 = nI k from Int32.sub_zero _]
  refine sw_istore_n (pc' := 9) (lv' := [(3, _), (0, _), (1, _), (2, _)]) rfl dJ7_copyOfRangeByte_39247_8 (by decide +kernel) rfl ?_
  refine sw_iload_n (pc' := 10) rfl dJ7_copyOfRangeByte_39247_9 rfl ?_
  refine sw_newa (t := 2) (len := k) (pc' := 12) rfl dJ7_copyOfRangeByte_39247_10 (by decide +kernel) w_352 rfl (by omega) (by omega) (by omega) ?_
  refine sw_nm (fun g1 eg1 => ?_)
  have zg1 := (congrFun eg1 n).trans (up_s (h := h) (i := n))
  refine sw_astore (pc' := 14) (lv' := [(4, _), (3, _), (0, _), (1, _), (2, _)]) rfl dJ7_copyOfRangeByte_39247_12 (by decide +kernel) rfl ?_
  refine sw_aload_n (pc' := 15) rfl dJ7_copyOfRangeByte_39247_14 rfl ?_
  refine sw_iload_n (pc' := 16) rfl dJ7_copyOfRangeByte_39247_15 rfl ?_
  refine sw_aload (pc' := 18) rfl dJ7_copyOfRangeByte_39247_16 rfl ?_
  refine sw_iconst (pc' := 19) (v := 0) rfl dJ7_copyOfRangeByte_39247_18 (by decide +kernel) ?_
  refine sw_aload_n (pc' := 20) rfl dJ7_copyOfRangeByte_39247_19 rfl ?_
  refine sw_alen (pc' := 21) rfl dJ7_copyOfRangeByte_39247_20 (((congrFun eg1 a).trans (up_n (by omega))).trans ha) (by decide +kernel) (Or.inl (by show 100 ≤ _; omega)) ?_
  refine sw_iload_n (pc' := 22) rfl dJ7_copyOfRangeByte_39247_21 rfl ?_
  refine sw_isub (pc' := 23) rfl dJ7_copyOfRangeByte_39247_22 ?_
  rw [show nI m - 0 = nI m from Int32.sub_zero _]
  refine sw_iload_n (pc' := 24) rfl dJ7_copyOfRangeByte_39247_23 rfl ?_
  refine sw_S (M' := MJ9_min_7cf53) (d' := d - 1) (bc' := 0) (bs' := 0) (as := [_, _]) dJ7_copyOfRangeByte_39247_24 w_751 ok_J9_min_7cf53 (m_min) (by omega) (Nat.le_of_ble_eq_true rfl) (Nat.zero_le _) (Nat.zero_le _) (fun E h' n' _ z => det_x z) (det_k ?_)
  rw [minN2 (by omega) (by omega)]
  refine sw_copyB (pc' := 30) (sp := 0) (dp := 0) (k := k) rfl dJ7_copyOfRangeByte_39247_27 w_754 w_756 w_755 w_59 (((congrFun eg1 a).trans (up_n (by omega))).trans ha) zg1 (by show 100 ≤ _; omega) hf (by omega) (by omega) rfl rfl rfl (by omega) (by omega) (Nat.le_of_ble_eq_true rfl) ?_
  refine sw_nm (fun g2 eg2 => ?_)
  have zg2 := (congrFun eg2 n).trans (up_s (h := g1) (i := n))
  refine sw_aload (pc' := 32) rfl dJ7_copyOfRangeByte_39247_30 rfl ?_
  refine sw_ret (v := some _) ⟨dJ7_copyOfRangeByte_39247_32, _, rfl, Or.inr ⟨_, rfl⟩⟩ ?_
  exact ⟨rfl, rfl, ⟨_, zg2, bfit_cpy hf bfit0⟩, fun i h1 => (congrFun eg2 i).trans ((up_n h1).trans ((congrFun eg1 i).trans ((up_n h1).trans (rfl))))⟩
theorem j_copyOfRange {h : AH} {d bc bs n : Nat} {a m k : Nat} {f : Nat → Int32} (ha : h a = .inl (2, m, .inl f)) (hf : bfit f) (ha0 : 100 ≤ a) (han : a < n) (hkm : k ≤ m) (hm : m ≤ 2000) (hd : 2 ≤ d) (h1 : 1 ≤ bc) (h2 : k ≤ bs) : SM SR0 MJ7_copyOfRange_39247 d bc bs [.ref a, .int 0, .int (nI k)] h n (NBo h n k) := by
  refine sm_of pn_java_util_Arrays rfl (Nat.le_of_ble_eq_true rfl) ?_
  refine sw_iload_n (pc' := 1) rfl dJ7_copyOfRange_39247_0 rfl ?_
  refine sw_if_ne (pc' := 4) (tgt := 10) rfl dJ7_copyOfRange_39247_1 (by decide +kernel) (fun c1 => ?_) (fun c1 => ?_)
  · exact absurd c1 (by decide +kernel)
  · refine sw_iload_n (pc' := 5) rfl dJ7_copyOfRange_39247_4 rfl ?_
    refine sw_aload_n (pc' := 6) rfl dJ7_copyOfRange_39247_5 rfl ?_
    refine sw_alen (pc' := 7) rfl dJ7_copyOfRange_39247_6 ha (by decide +kernel) (Or.inl (by show 100 ≤ _; omega)) ?_
    refine sw_icmp_eq (pc' := 10) (tgt := 17) rfl dJ7_copyOfRange_39247_7 (by decide +kernel) (fun c7 => ?_) (fun c7 => ?_)
    · refine sw_aload_n (pc' := 18) rfl dJ7_copyOfRange_39247_17 rfl ?_
      have ekm : k = m := (nI_eq (by omega) (by omega)).mp c7
      refine sw_cloneB (pc' := 21) rfl dJ7_copyOfRange_39247_18 w_744 w_745 w_746 w_747 w_748 v_711 ha ha0 hf (Nat.le_of_ble_eq_true rfl) (by omega) (by omega) ?_
      refine sw_nm (fun g1 eg1 => ?_)
      have zg1 := (congrFun eg1 n).trans (up_s (h := h) (i := n))
      refine sw_castB (pc' := 24) rfl dJ7_copyOfRange_39247_21 w_750 zg1 (by show 100 ≤ _; omega) ?_
      refine sw_ret (v := some _) ⟨dJ7_copyOfRange_39247_24, _, rfl, Or.inr ⟨_, rfl⟩⟩ ?_
      exact ⟨rfl, rfl, ⟨f, by rw [ekm]; exact zg1, hf⟩, fun i h1 => (congrFun eg1 i).trans ((up_n h1).trans (rfl))⟩
    · refine sw_aload_n (pc' := 11) rfl dJ7_copyOfRange_39247_10 rfl ?_
      refine sw_iload_n (pc' := 12) rfl dJ7_copyOfRange_39247_11 rfl ?_
      refine sw_iload_n (pc' := 13) rfl dJ7_copyOfRange_39247_12 rfl ?_
      refine sw_S (M' := MJ7_copyOfRangeByte_39247) (d' := d - 1) (bc' := 1) (bs' := k) (as := [_, _, _]) dJ7_copyOfRange_39247_13 w_877 ok_J7_copyOfRangeByte_39247 (j_copyOfRangeByte ha hf ha0 han hkm hm (by omega) (by omega) (by omega)) (by omega) (Nat.le_of_ble_eq_true rfl) (by omega) (by omega) (fun E h' n' _ z => nbo_x z) (nbo_k (fun p pf pN pfit pF => ?_))
      refine sw_ret (v := some _) ⟨dJ7_copyOfRange_39247_16, _, rfl, Or.inr ⟨_, rfl⟩⟩ ?_
      exact ⟨rfl, rfl, ⟨_, pN, pfit⟩, pF⟩
/-- a String is made at t -/
def StV (h : AH) (n' n t L : Nat) : Prop := ∃ (v : Nat) (f : Nat → Int32) (r : List Value), h t = .inr (0, .ref v :: .int 0 :: r) ∧ h v = .inl (2, L, .inl f) ∧ bfit f ∧ t < n' ∧ n ≤ v ∧ v < n'
def SIo (h : AH) (n t L : Nat) : ARes → AH → Nat → Prop := fun r' h' n' => r' = .inl none ∧ n ≤ n' ∧ StV h' n' n t L ∧ ∀ i, i < n → i ≠ t → h' i = h i
theorem sio_k {A : Nat → AH → Option Value → Prop} {h : AH} {n t L m : Nat} (k : ∀ h' n', n ≤ n' → StV h' n' n t L → (∀ i, i < n → i ≠ t → h' i = h i) → A n' h' none) : ∀ (v : Option Value) (h' : AH) (n' : Nat), m ≤ n' → SIo h n t L (.inl v) h' n' → A n' h' v := by
  rintro v h' n' - ⟨e, g1, g2, g3⟩
  cases e
  exact k h' n' g1 g2 g3
theorem sio_x {A : Prop} {h : AH} {n t L : Nat} {E : String} {h' : AH} {n' : Nat} (z : SIo h n t L (.inr E) h' n') : A := by cases z.1
theorem j_initS2 {h : AH} {d bc bs n : Nat} {n0 b N m t : Nat} (ht : h t = .inr (0, dfs 0)) (hS : SbF h n n0 b N m) (h0 : 100 ≤ n0) (ht0 : 100 ≤ t) (htn : t < n) (htb : ∀ a f, h t ≠ .inl (2, a, .inl f)) (hm : m ≤ 2000) (h1 : 1 ≤ bc) (h2 : N ≤ bs) (hd : 4 ≤ d) : SM SR0 MJ0_init_db425 d bc bs [.ref t, .ref b, .null] h n (SIo h n t N) := by
  obtain ⟨a, f, fl, hb, ha, hf, hNC, ha0, han, hb0, hbn, hba⟩ := hS
  have hta : a ≠ t := fun e => htb m f (e ▸ ha)
  have htb2 : b ≠ t := fun e => by rw [e, ht] at hb; cases hb
  refine sm_of pn_java_lang_String rfl (Nat.le_of_ble_eq_true rfl) ?_
  refine sw_aload_n (pc' := 1) rfl dJ0_init_db425_0 rfl ?_
  refine sw_objInit (pc' := 4) rfl dJ0_init_db425_1 w_859 w_69 w_70 (Nat.le_of_ble_eq_true rfl) ?_
  refine sw_aload_n (pc' := 5) rfl dJ0_init_db425_4 rfl ?_
  refine sw_callU (M' := MJ5_getValue_6d5f1) (x := ({ cls := "java/lang/AbstractStringBuilder", name := "getValue", desc := "()[B" } : Jvm.MethodName)) (d' := d - 1) (bc' := 0) (bs' := 0) (ci := 1) (as := []) dJ0_init_db425_5 w_860 w_862 rfl w_861 w_863 w_53 (by unfold cwM; exact w_864) (by decide +kernel) (show _ = some 0 by decide +kernel) rfl (by omega) (by decide +kernel) (j_getValue hb) hb (Nat.le_of_ble_eq_true rfl) (Nat.zero_le _) (Nat.zero_le _) (det_k ?_) (fun E h' n' _ z => det_x z)
  refine sw_astore_n (pc' := 9) (lv' := [(3, _), (0, _), (1, _), (2, _)]) rfl dJ0_init_db425_8 (by decide +kernel) rfl ?_
  refine sw_aload_n (pc' := 10) rfl dJ0_init_db425_9 rfl ?_
  refine sw_callO (M' := MJ4_length_8abf5) (x := ({ cls := "java/lang/AbstractStringBuilder", name := "length", desc := "()I" } : Jvm.MethodName)) (owner := "java/lang/AbstractStringBuilder") (d' := d - 1) (bc' := 0) (bs' := 0) (ci := 1) (as := []) dJ0_init_db425_10 w_865 w_867 w_866 w_872 w_869 w_868 w_54 (by unfold cwM; exact w_870) (by decide +kernel) (show _ = some 0 by decide +kernel) rfl (by omega) (by decide +kernel) (j_length4 hb (by omega)) hb (Nat.le_of_ble_eq_true rfl) (Nat.zero_le _) (Nat.zero_le _) (fun E h' n' _ z => det_x z) (det_k ?_)
  refine sw_istore (pc' := 15) (lv' := [(4, _), (3, _), (0, _), (1, _), (2, _)]) rfl dJ0_init_db425_13 (by decide +kernel) rfl ?_
  refine sw_aload_n (pc' := 16) rfl dJ0_init_db425_15 rfl ?_
  refine sw_callU (M' := MJ5_isLatin1_aae02) (x := ({ cls := "java/lang/AbstractStringBuilder", name := "isLatin1", desc := "()Z" } : Jvm.MethodName)) (d' := d - 1) (bc' := 0) (bs' := 0) (ci := 1) (as := []) dJ0_init_db425_16 w_873 w_759 rfl w_758 w_760 w_53 (by unfold cwM; exact w_761) (by decide +kernel) (show _ = some 0 by decide +kernel) rfl (by omega) (by decide +kernel) (j_isLatin1 hb) hb (Nat.le_of_ble_eq_true rfl) (Nat.zero_le _) (Nat.zero_le _) (det_k ?_) (fun E h' n' _ z => det_x z)
  refine sw_if_eq (pc' := 22) (tgt := 41) rfl dJ0_init_db425_19 (by decide +kernel) (fun c19 => ?_) (fun c19 => ?_)
  · exact absurd c19 (by decide +kernel)
  · refine sw_aload_n (pc' := 23) rfl dJ0_init_db425_22 rfl ?_
    refine sw_iconst (pc' := 24) (v := 0) rfl dJ0_init_db425_23 (by decide +kernel) ?_
    refine sw_putfF (ci := 0) (k := 1) (pc' := 27) rfl dJ0_init_db425_24 (by decide +kernel) (by decide +kernel) w_942 rfl rfl rfl ht (by show 100 ≤ _; omega) (Nat.le_of_ble_eq_true rfl) rfl rfl ?_
    refine sw_nm (fun g1 eg1 => ?_)
    have zg1 := (congrFun eg1 t).trans (up_s (h := h) (i := t))
    refine sw_aload_n (pc' := 28) rfl dJ0_init_db425_27 rfl ?_
    refine sw_aload_n (pc' := 29) rfl dJ0_init_db425_28 rfl ?_
    refine sw_iconst (pc' := 30) (v := 0) rfl dJ0_init_db425_29 (by decide +kernel) ?_
    refine sw_iload (pc' := 32) rfl dJ0_init_db425_30 rfl ?_
    have pre9 : ∀ i, i ≠ t → g1 i = h i := fun i h1 => (congrFun eg1 i).trans ((up_n h1).trans (rfl))
    refine sw_S (M' := MJ7_copyOfRange_39247) (d' := d - 1) (bc' := 1) (bs' := N) (as := [_, _, _]) dJ0_init_db425_32 w_874 ok_J7_copyOfRange_39247 (j_copyOfRange (((congrFun eg1 a).trans (up_n (by omega))).trans ha) hf (by omega) (by omega) (by omega) (by omega) (by omega) (by omega) (by omega)) (by omega) (Nat.le_of_ble_eq_true rfl) (by omega) (by omega) (fun E h' n' _ z => nbo_x z) (nbo_k (fun p pf pN pfit pF => ?_))
    refine sw_putfF (ci := 0) (k := 0) (pc' := 38) rfl dJ0_init_db425_35 (by decide +kernel) (by decide +kernel) w_941 rfl rfl rfl ((pF t (by omega)).trans zg1) (by show 100 ≤ _; omega) (Nat.le_of_ble_eq_true rfl) rfl rfl ?_
    refine sw_nm (fun g2 eg2 => ?_)
    have zg2 := (congrFun eg2 t).trans (up_s (h := p) (i := t))
    refine sw_goto (tgt := 97) dJ0_init_db425_38 (by decide +kernel) ?_
    refine sw_ret (v := none) ⟨dJ0_init_db425_97, rfl⟩ ?_
    exact ⟨rfl, Nat.le_succ _, ⟨n, pf, _, zg2, (congrFun eg2 n).trans ((up_n (by omega)).trans (pN)), pfit, by omega, Nat.le_refl _, Nat.lt_succ_self _⟩, fun i hi h1 => (congrFun eg2 i).trans ((up_n h1).trans ((pF i (by omega)).trans (pre9 i h1)))⟩
theorem j_initS {h : AH} {d bc bs n : Nat} {n0 b N m t : Nat} (ht : h t = .inr (0, dfs 0)) (hS : SbF h n n0 b N m) (h0 : 100 ≤ n0) (ht0 : 100 ≤ t) (htn : t < n) (htb : ∀ a f, h t ≠ .inl (2, a, .inl f)) (hm : m ≤ 2000) (h1 : 1 ≤ bc) (h2 : N ≤ bs) (hd : 5 ≤ d) : SM SR0 MJ0_init_81219 d bc bs [.ref t, .ref b] h n (SIo h n t N) := by
  refine sm_of pn_java_lang_String rfl (Nat.le_of_ble_eq_true rfl) ?_
  refine sw_aload_n (pc' := 1) rfl dJ0_init_81219_0 rfl ?_
  refine sw_aload_n (pc' := 2) rfl dJ0_init_81219_1 rfl ?_
  refine sw_null (pc' := 3) rfl dJ0_init_81219_2 ?_
  refine sw_I (M' := MJ0_init_db425) (d' := d - 1) (bc' := 1) (bs' := N) (as := [_, _]) dJ0_init_81219_3 w_856 ok_J0_init_db425 (j_initS2 ht hS h0 ht0 htn htb hm (by omega) (by omega) (by omega)) (by omega) (Nat.le_of_ble_eq_true rfl) (by omega) (by omega) (fun E h' n' _ z => sio_x z) (sio_k (fun p pn pk pS pF => ?_))
  refine sw_ret (v := none) ⟨dJ0_init_81219_6, rfl⟩ ?_
  exact ⟨rfl, pk, pS, pF⟩
theorem j_toString {h : AH} {d bc bs n : Nat} {n0 b N m : Nat} (hS : SbF h n n0 b N m) (h0 : 100 ≤ n0) (hm : m ≤ 2000) (h1 : 2 ≤ bc) (h2 : N + 4 ≤ bs) (hd : 6 ≤ d) : SM SR0 MJ4_toString_0e30d d bc bs [.ref b] h n (SPo h n N) := by
  refine sm_of pn_java_lang_StringBuilder rfl (Nat.le_of_ble_eq_true rfl) ?_
  refine sw_new (ci := 0) (pc' := 3) rfl dJ4_toString_0e30d_0 (by decide +kernel) w_851 w_852 w_55 (by omega) (Nat.le_trans (Nat.le_of_ble_eq_true rfl) (show 4 ≤ _ by omega)) ?_
  refine sw_nm (fun g1 eg1 => ?_)
  have zg1 := (congrFun eg1 n).trans (up_s (h := h) (i := n))
  refine sw_dup (pc' := 4) rfl dJ4_toString_0e30d_3 rfl ?_
  refine sw_aload_n (pc' := 5) rfl dJ4_toString_0e30d_4 rfl ?_
  have f4 : FN 0 = 4 := rfl
  have sS : SbF g1 (n + 1) n0 b N m := hS.fr (fun i hi => (congrFun eg1 i).trans ((up_n (by omega)).trans (rfl))) (Nat.le_succ _)
  refine sw_I (M' := MJ0_init_81219) (d' := d - 1) (bc' := 1) (bs' := N) (as := [_]) dJ4_toString_0e30d_5 w_853 ok_J0_init_81219 (j_initS zg1 sS h0 (by have := hS.lt; omega) (Nat.lt_succ_self _) (fun a f e => by rw [zg1] at e; cases e) hm (by omega) (Nat.le_refl _) (by omega)) (by omega) (Nat.le_of_ble_eq_true rfl) (by omega) (by omega) (fun E h' n' _ z => sio_x z) (sio_k (fun p pn pk pS pF => ?_))
  refine sw_ret (v := some _) ⟨dJ4_toString_0e30d_8, _, rfl, Or.inl ⟨_, rfl⟩⟩ ?_
  obtain ⟨v9, f9, r9, g1, g2, g3, g4, g5, g6⟩ := pS
  exact ⟨by omega, n, rfl, ⟨v9, f9, r9, g1, g2, g3, Or.inr (Nat.le_refl _), g4, Or.inr (by omega), g6⟩, fun i hi => (pF i (by omega) (by omega)).trans ((congrFun eg1 i).trans (up_n (by omega)))⟩
end
section
/-! 51.inv -/
/-! what holds of the class's numbers before and after each call -/
def WA (σ : CS) (k : Nat) : Prop := ∃ A : Nat, wAh σ k = nI A ∧ A ≤ σ.2.1 (wO σ k) ∧ ((σ.2.2.2.2.1 k).2.2.2.2.2.2.2 = true → 1 ≤ A)
def Cn (σ : CS) (N : Nat) : Prop := ∃ S : Nat → Nat, (∀ k, k < 11 → σ.2.2.1 k = nI (S k) ∧ S k ≤ N) ∧ ∀ k, k < 6 → (σ.2.2.2.2.1 k).1 = true → ∃ s, s ≤ S (wO σ k) ∧ (σ.2.2.2.2.1 k).2.2.2.2.2.1 = nI s ∧ (s = S (wO σ k) → WA σ k)
def I0 (σ : CS) (N : Nat) : Prop := (∀ k, k < 11 → σ.2.1 k ≤ 12) ∧ (∀ k, k < 11 → ∀ j, j < σ.2.1 k → 0 ≤ σ.1 k j ∧ σ.1 k j ≤ 100) ∧ srt (σ.1 3) (σ.2.1 3) ∧ srt (σ.1 6) (σ.2.1 6) ∧ eis (σ.1 4) (σ.2.1 4) ∧ (∀ k, k < 6 → wO σ k < 11) ∧ Cn σ N
def IV (σ : CS) (N : Nat) : Prop := I0 σ N ∧ σ.2.1 6 = σ.2.1 7
theorem IV.iv {σ : CS} {N : Nat} (h : IV σ N) (hN : N < 2 ^ 31) : Iv σ := by
  obtain ⟨⟨h1, h2, h3, h4, h5, h6, S, h7, h8⟩, h9⟩ := h
  refine ⟨h1, h9, h2, h3, h4, h5, h6, fun k hk hm hs => ?_⟩
  obtain ⟨s, g1, g2, g3⟩ := h8 k hk hm
  refine g3 ?_
  have e : σ.2.2.1 (wO σ k) = (σ.2.2.2.2.1 k).2.2.2.2.2.1 := Decidable.of_not_not (of_decide_eq_false hs)
  have e7 := h7 (wO σ k) (h6 k hk)
  rw [g2, e7.1] at e
  exact ((nI_eq (by omega) (by omega)).mp e).symm
theorem IV.sn {σ : CS} {N : Nat} (h : IV σ N) : snB σ = true := by
  obtain ⟨⟨h1, h2, h3, h4, h5, h6, h7⟩, h9⟩ := h
  unfold snB
  rw [srt_riB0 h3, srt_riB0 h4, eis_eoB h5 (by omega), decide_eq_true h9]
  rfl
theorem Cn.mono {σ : CS} {N M : Nat} (h : Cn σ N) (hM : N ≤ M) : Cn σ M := by
  obtain ⟨S, h1, h2⟩ := h
  exact ⟨S, fun k hk => ⟨(h1 k hk).1, Nat.le_trans (h1 k hk).2 hM⟩, h2⟩
theorem I0.mono {σ : CS} {N M : Nat} (h : I0 σ N) (hM : N ≤ M) : I0 σ M := ⟨h.1, h.2.1, h.2.2.1, h.2.2.2.1, h.2.2.2.2.1, h.2.2.2.2.2.1, h.2.2.2.2.2.2.mono hM⟩
theorem IV.mono {σ : CS} {N M : Nat} (h : IV σ N) (hM : N ≤ M) : IV σ M := ⟨h.1.mono hM, h.2⟩
section
variable {σ : CS} {N k : Nat} {f : Nat → Int32} {c : Nat} {t : Int32}
theorem i0_row (h : I0 σ N) (hc : c ≤ 12) (ht : ∀ j, j < c → 0 ≤ f j ∧ f j ≤ 100) (h3 : k = 3 → srt f c) (h6 : k = 6 → srt f c) (h4 : k = 4 → eis f c) (s : Int32) :
    (∀ j, j < 11 → (sU σ k f c s t).2.1 j ≤ 12) ∧ (∀ i, i < 11 → ∀ j, j < (sU σ k f c s t).2.1 i → 0 ≤ (sU σ k f c s t).1 i j ∧ (sU σ k f c s t).1 i j ≤ 100) ∧ srt ((sU σ k f c s t).1 3) ((sU σ k f c s t).2.1 3) ∧ srt ((sU σ k f c s t).1 6) ((sU σ k f c s t).2.1 6) ∧ eis ((sU σ k f c s t).1 4) ((sU σ k f c s t).2.1 4) := by
  have e1 : ∀ j, (sU σ k f c s t).1 j = if j = k then f else σ.1 j := fun j => rfl
  have e2 : ∀ j, (sU σ k f c s t).2.1 j = if j = k then c else σ.2.1 j := fun j => rfl
  refine ⟨fun j hj => ?_, fun i hi j hj => ?_, ?_, ?_, ?_⟩
  · rw [e2]
    split
    · exact hc
    · exact h.1 j hj
  · rw [e2] at hj
    rw [e1]
    by_cases e : i = k
    · rw [if_pos e] at hj ⊢
      exact ht j hj
    · rw [if_neg e] at hj ⊢
      exact h.2.1 i hi j hj
  · rw [e1, e2]
    by_cases e : 3 = k
    · rw [if_pos e, if_pos e]; exact h3 e.symm
    · rw [if_neg e, if_neg e]; exact h.2.2.1
  · rw [e1, e2]
    by_cases e : 6 = k
    · rw [if_pos e, if_pos e]; exact h6 e.symm
    · rw [if_neg e, if_neg e]; exact h.2.2.2.1
  · rw [e1, e2]
    by_cases e : 4 = k
    · rw [if_pos e, if_pos e]; exact h4 e.symm
    · rw [if_neg e, if_neg e]; exact h.2.2.2.2.1
/-- a SHELF is SHIFTED -/
theorem I0.sh1 (h : I0 σ N) (hk : k < 11) (hc : c ≤ 12) (ht : ∀ j, j < c → 0 ≤ f j ∧ f j ≤ 100) (h3 : k = 3 → srt f c) (h6 : k = 6 → srt f c) (h4 : k = 4 → eis f c) : I0 (sU σ k f c (σ.2.2.1 k + 1) t) (N + 1) := by
  obtain ⟨g1, g2, g3, g4, g5⟩ := i0_row (t := t) h hc ht h3 h6 h4 (σ.2.2.1 k + 1)
  obtain ⟨S, q1, q2⟩ := h.2.2.2.2.2.2
  refine ⟨g1, g2, g3, g4, g5, h.2.2.2.2.2.1, up S k (S k + 1), fun j hj => ?_, fun j hj hm => ?_⟩
  · show up σ.2.2.1 k (σ.2.2.1 k + 1) j = _ ∧ _
    by_cases e : j = k
    · rw [e, up_s, up_s, (q1 k hk).1, nI_1]
      exact ⟨rfl, by have := (q1 k hk).2; omega⟩
    · rw [up_n e, up_n e]
      exact ⟨(q1 j hj).1, by have := (q1 j hj).2; omega⟩
  · obtain ⟨s, a1, a2, a3⟩ := q2 j hj hm
    refine ⟨s, ?_, a2, fun e => ?_⟩
    · show s ≤ up S k (S k + 1) (wO σ j)
      by_cases e : wO σ j = k
      · rw [e, up_s]; rw [e] at a1; omega
      · rw [up_n e]; exact a1
    · have e' : s = up S k (S k + 1) (wO σ j) := e
      by_cases e2 : wO σ j = k
      · rw [e2, up_s] at e'; rw [e2] at a1; omega
      · rw [up_n e2] at e'
        obtain ⟨A, b1, b2, b3⟩ := a3 e'
        refine ⟨A, b1, ?_, b3⟩
        show A ≤ up σ.2.1 k c (wO σ j)
        rw [up_n e2]
        exact b2
/-- things alone are otherwise -/
theorem I0.sh0 (h : I0 σ N) (ht : ∀ j, j < σ.2.1 k → 0 ≤ f j ∧ f j ≤ 100) (hk : k < 11) (h3 : k = 3 → srt f (σ.2.1 k)) (h6 : k = 6 → srt f (σ.2.1 k)) (h4 : k = 4 → eis f (σ.2.1 k)) : I0 (sU σ k f (σ.2.1 k) (σ.2.2.1 k) t) N := by
  obtain ⟨g1, g2, g3, g4, g5⟩ := i0_row (t := t) h (h.1 k hk) ht h3 h6 h4 (σ.2.2.1 k)
  obtain ⟨S, q1, q2⟩ := h.2.2.2.2.2.2
  refine ⟨g1, g2, g3, g4, g5, h.2.2.2.2.2.1, S, fun j hj => ?_, fun j hj hm => ?_⟩
  · show up σ.2.2.1 k (σ.2.2.1 k) j = _ ∧ _
    rw [up_id]
    exact q1 j hj
  · obtain ⟨s, a1, a2, a3⟩ := q2 j hj hm
    refine ⟨s, a1, a2, fun e => ?_⟩
    obtain ⟨A, b1, b2, b3⟩ := a3 e
    refine ⟨A, b1, ?_, b3⟩
    show A ≤ up σ.2.1 k (σ.2.1 k) (wO σ j)
    rw [up_id]
    exact b2
/-- a WALK is otherwise -/
theorem I0.wk (h : I0 σ N) {q : WT} (hq : q.2.1 < 11) (hw : ∀ S : Nat → Nat, (∀ k, k < 11 → σ.2.2.1 k = nI (S k) ∧ S k ≤ N) → (∀ k, k < 6 → (σ.2.2.2.2.1 k).1 = true → ∃ s, s ≤ S (wO σ k) ∧ (σ.2.2.2.2.1 k).2.2.2.2.2.1 = nI s ∧ (s = S (wO σ k) → WA σ k)) → q.1 = true → ∃ s, s ≤ S q.2.1 ∧ q.2.2.2.2.2.1 = nI s ∧ (s = S q.2.1 → ∃ A : Nat, q.2.2.2.1 - q.2.2.2.2.1 = nI A ∧ A ≤ σ.2.1 q.2.1 ∧ (q.2.2.2.2.2.2.2 = true → 1 ≤ A))) : I0 (wU σ k q) N := by
  obtain ⟨S, q1, q2⟩ := h.2.2.2.2.2.2
  have ew : ∀ j, (wU σ k q).2.2.2.2.1 j = if j = k then q else σ.2.2.2.2.1 j := fun j => rfl
  refine ⟨h.1, h.2.1, h.2.2.1, h.2.2.2.1, h.2.2.2.2.1, fun j hj => ?_, S, q1, fun j hj hm => ?_⟩
  · unfold wO
    rw [ew]
    split
    · exact hq
    · exact h.2.2.2.2.2.1 j hj
  · unfold wO WA wAh wO at *
    rw [ew] at hm ⊢
    by_cases e : j = k
    · rw [if_pos e] at hm ⊢
      exact hw S q1 q2 hm
    · rw [if_neg e] at hm ⊢
      exact q2 j hj hm
theorem I0.rf (h : I0 σ N) : I0 (rfU σ) N := h
theorem I0.kn (h : I0 σ N) : I0 (knU σ) N := h
end
theorem IV.rf {σ : CS} {N : Nat} (h : IV σ N) : IV (rfU σ) N := h
theorem IV.kn {σ : CS} {N : Nat} (h : IV σ N) : IV (knU σ) N := h
theorem sU_c {σ : CS} {k j c : Nat} {f : Nat → Int32} {s t : Int32} (h : j ≠ k) : (sU σ k f c s t).2.1 j = σ.2.1 j := up_n h
theorem sU_f {σ : CS} {k j c : Nat} {f : Nat → Int32} {s t : Int32} (h : j ≠ k) : (sU σ k f c s t).1 j = σ.1 j := up_n h
theorem sU_k {σ : CS} {k c : Nat} {f : Nat → Int32} {s t : Int32} : (sU σ k f c s t).2.1 k = c := up_s
/-- .. of a SHELF that isn't of the TABLE -/
theorem IV.sh1 {σ : CS} {N k c : Nat} {f : Nat → Int32} {t : Int32} (h : IV σ N) (hk : k < 11) (h7 : kdO k ≠ 5) (hc : c ≤ 12) (ht : ∀ j, j < c → 0 ≤ f j ∧ f j ≤ 100) (h3 : k = 3 → srt f c) (h4 : k = 4 → eis f c) : IV (sU σ k f c (σ.2.2.1 k + 1) t) (N + 1) := by
  have n6 : 6 ≠ k := fun e => h7 (e ▸ rfl)
  have n7 : 7 ≠ k := fun e => h7 (e ▸ rfl)
  exact ⟨h.1.sh1 hk hc ht h3 (fun e => absurd e.symm n6) h4, by rw [sU_c n6, sU_c n7]; exact h.2⟩
theorem IV.sh0 {σ : CS} {N k : Nat} {f : Nat → Int32} {t : Int32} (h : IV σ N) (hk : k < 11) (ht : ∀ j, j < σ.2.1 k → 0 ≤ f j ∧ f j ≤ 100) (h3 : k ≠ 3) (h6 : k ≠ 6) (h4 : k ≠ 4) : IV (sU σ k f (σ.2.1 k) (σ.2.2.1 k) t) N := by
  refine ⟨h.1.sh0 ht hk (fun e => absurd e h3) (fun e => absurd e h6) (fun e => absurd e h4), ?_⟩
  have e2 : ∀ j, (sU σ k f (σ.2.1 k) (σ.2.2.1 k) t).2.1 j = σ.2.1 j := fun j => by show up σ.2.1 k (σ.2.1 k) j = _; rw [up_id]
  rw [e2, e2]
  exact h.2
theorem IV.wk {σ : CS} {N k : Nat} {q : WT} (h : IV σ N) (g : I0 (wU σ k q) N) : IV (wU σ k q) N := ⟨g, h.2⟩
theorem x100 {x : Int32} (q : ¬ (x < 0 ∨ 100 < x)) : 0 ≤ x ∧ x ≤ 100 := ⟨Int32.not_lt.mp (fun g => q (Or.inl g)), Int32.not_lt.mp (fun g => q (Or.inr g))⟩
theorem x99 {x : Int32} (q : ¬ (x < 0 ∨ 100 ≤ x)) : 0 ≤ x ∧ x ≤ 100 := ⟨Int32.not_lt.mp (fun g => q (Or.inl g)), Int32.le_of_lt (Int32.not_le.mp (fun g => q (Or.inr g)))⟩
theorem IV.ld {σ : CS} {N k : Nat} {x : Int32} (h : IV σ N) (hk : k < 11) (h7 : kdO k ≠ 5) (hc : σ.2.1 k < 12) (hx : 0 ≤ x ∧ x ≤ 100) : IV (ldU σ k x) (N + 1) := by
  have hs := ldU_srt (σ := σ) (k := k) (x := x)
  unfold ldU at hs ⊢
  by_cases e : ldY (σ.1 k) (σ.2.1 k) (kdO k) x = true
  · rw [if_pos e] at hs ⊢
    have hp : ldP (σ.1 k) (σ.2.1 k) (kdO k) x ≤ σ.2.1 k := by
      unfold ldP
      split
      · have := @rpN_at (σ.1 k) x (σ.2.1 k) 0; omega
      · omega
    refine h.sh1 hk h7 (by omega) (laN_cs (Q := fun y => 0 ≤ y ∧ y ≤ 100) hp hx (h.1.2.1 k hk)) (fun e3 => ?_) (fun e4 => ?_)
    · have := hs e3 (by rw [e3]; exact h.1.2.2.1)
      have e1 : (sU σ k (laN (σ.1 k) (ldP (σ.1 k) (σ.2.1 k) (kdO k) x) x (σ.2.1 k)) (σ.2.1 k + 1) (σ.2.2.1 k + 1) (σ.2.2.2.1 k)).1 k = laN (σ.1 k) (ldP (σ.1 k) (σ.2.1 k) (kdO k) x) x (σ.2.1 k) := up_s
      rw [e1, sU_k] at this
      exact this
    · subst e4
      refine eis_la h.1.2.2.2.2.1 hp (fpN_isS ?_)
      unfold ldY at e
      cases g : (fpN (σ.1 4) x 0 (σ.2.1 4)).isSome with
      | false => rfl
      | true => rw [g] at e; exact absurd e (by decide +kernel)
  · rw [if_neg e]
    exact h.mono (Nat.le_succ _)
theorem IV.ca {k : Nat} {g : Nat → Int32} (hk : k < 11) (h7 : kdO k ≠ 5) {m : Nat} : ∀ {j : Nat} {w : Bool} {σ : CS} {N : Nat}, IV σ N → σ.2.1 k + m ≤ 12 → (∀ i, j ≤ i → i < j + m → 0 ≤ g i ∧ g i ≤ 100) → IV (caM k g j m w σ).2 (N + m) := by
  induction m with
  | zero => intro j w σ N h _ _; exact h
  | succ m ih =>
    intro j w σ N h hc hg
    unfold caM
    have hu := ldU_c2 (σ := σ) (k := k) (x := g j)
    have := ih (j := j + 1) (w := w || ldY (σ.1 k) (σ.2.1 k) (kdO k) (g j)) (h.ld hk h7 (by omega) (hg j (Nat.le_refl _) (by omega))) (by omega) (fun i h1 h2 => hg i (by omega) (by omega))
    rw [show N + 1 + m = N + (m + 1) by omega] at this
    exact this
/-! the calls -/
def IVo (σ : CS) (N : Nat) (q : ARes × CS) : Prop := IV q.2 (N + 12)
section
variable {σ : CS} {N : Nat} {a b x y : Int32}
theorem iv_same {r : ARes} (h : IV σ N) : IVo σ N (r, σ) := h.mono (by omega)
theorem iv_rf {r : ARes} (h : IV σ N) : IVo σ N (r, rfU σ) := h.rf.mono (by omega)
theorem onSh_iv {g : Nat → ARes × CS} (h : IV σ N) (hg : ∀ k, k < 11 → IVo σ N (g k)) : IVo σ N (onSh a σ g) := by
  rcases idxN 11 (by decide +kernel) a with q | ⟨k, hk, rfl⟩
  · rw [onSh_x q]; exact iv_same h
  · rw [onSh_k hk]; exact hg k hk
theorem onWk_iv {g : Nat → ARes × CS} (h : IV σ N) (hg : ∀ k, k < 6 → IVo σ N (g k)) : IVo σ N (onWk a σ g) := by
  rcases idxN 6 (by decide +kernel) a with q | ⟨k, hk, rfl⟩
  · rw [onWk_x q]; exact iv_same h
  · rw [onWk_k hk]; exact hg k hk
theorem onRw_iv {g : Nat → ARes × CS} (h : IV σ N) (hg : ∀ k, k < 11 → ¬ kP (kdO k) = false → IVo σ N (g k)) : IVo σ N (onRw a σ g) := by
  rcases idxN 11 (by decide +kernel) a with q | ⟨k, hk, rfl⟩
  · rw [onRw_x q]; exact iv_same h
  · by_cases q : kP (kdO k) = false
    · rw [onRw_y hk q]; exact iv_same h
    · rw [onRw_k hk q]; exact hg k hk q
theorem onLi_iv {g : Nat → ARes × CS} (h : IV σ N) (hg : ∀ k, k < 11 → 8 ≤ k → IVo σ N (g k)) : IVo σ N (onLi a σ g) := by
  by_cases q : a < 8
  · rw [if_li q]; exact iv_same h
  · rcases idxN 11 (by decide +kernel) a with q1 | ⟨k, hk, rfl⟩
    · rw [onLi_z q q1]; exact iv_same h
    · rw [onLi_k q hk]
      refine hg k hk ?_
      have := Int32.not_lt.mp q
      exact (nI_leI (a := 8) (by decide +kernel) (by omega)).mp this
theorem iv_if {p : Prop} [Decidable p] {u v : ARes × CS} (h1 : p → IVo σ N u) (h2 : ¬ p → IVo σ N v) : IVo σ N (if p then u else v) := by
  by_cases q : p
  · rw [if_pos q]; exact h1 q
  · rw [if_neg q]; exact h2 q
theorem row_k {k : Nat} (hk : k < 11) (h : ¬ kP (kdO k) = false) : kdO k ≠ 5 ∧ k ≠ 3 ∧ k ≠ 4 ∧ k ≠ 6 ∧ k ≠ 7 := by revert k; decide
theorem li_k8 {k : Nat} (hk : k < 11) (h : 8 ≤ k) : kdO k ≠ 5 ∧ k ≠ 3 ∧ k ≠ 4 ∧ k ≠ 6 ∧ k ≠ 7 := by
  refine ⟨?_, by omega, by omega, by omega, by omega⟩
  have : ∀ k : Nat, k < 11 → 8 ≤ k → kdO k ≠ 5 := by decide +kernel
  exact this k hk h
theorem iv_size (h : IV σ N) : IVo σ N (opSize σ a) := onSh_iv h (fun _ _ => iv_same h)
theorem iv_isEmpty (h : IV σ N) : IVo σ N (opIsEmpty σ a) := onSh_iv h (fun _ _ => iv_same h)
theorem iv_has (h : IV σ N) : IVo σ N (opHas σ a x) := onSh_iv h (fun _ _ => iv_if (fun _ => iv_same h) (fun _ => iv_if (fun _ => iv_rf h) (fun _ => iv_same h)))
theorem iv_often (h : IV σ N) : IVo σ N (opOften σ a x) := onSh_iv h (fun _ _ => iv_if (fun _ => iv_same h) (fun _ => iv_same h))
theorem iv_first (h : IV σ N) : IVo σ N (opFirst σ a y) := onSh_iv h (fun _ _ => iv_if (fun _ => iv_rf h) (fun _ => iv_same h))
theorem iv_more (h : IV σ N) : IVo σ N (opMore σ a) := onWk_iv h (fun _ _ => iv_if (fun _ => iv_same h) (fun _ => iv_if (fun _ => iv_rf h) (fun _ => iv_same h)))
theorem iv_valueOf (h : IV σ N) : IVo σ N (opValueOf σ x) := iv_if (fun _ => iv_same h) (fun _ => iv_same h)
theorem iv_placeOf (h : IV σ N) : IVo σ N (opPlaceOf σ a x y) := onRw_iv h (fun _ _ _ => iv_if (fun _ => iv_same h) (fun _ => iv_same h))
theorem iv_code (h : IV σ N) : IVo σ N (opCode σ a) := onSh_iv h (fun _ _ => iv_same h)
theorem iv_areAlike (h : IV σ N) : IVo σ N (opAreAlike σ a b) := onSh_iv h (fun _ _ => onSh_iv h (fun _ _ => iv_same h))
theorem iv_disjoint (h : IV σ N) : IVo σ N (opDisjoint σ a b) := onSh_iv h (fun _ _ => onSh_iv h (fun _ _ => iv_if (fun _ => iv_rf h) (fun _ => iv_same h)))
theorem iv_end (h : IV σ N) : IVo σ N (opEnd σ a y) := onSh_iv h (fun _ _ => iv_if (fun _ => iv_rf h) (fun _ => iv_same h))
theorem iv_ofWalk (h : IV σ N) : IVo σ N (opOfWalk σ a x) := onWk_iv h (fun _ _ => iv_if (fun _ => iv_same h) (fun _ => iv_if (fun _ => iv_same h) (fun _ => iv_same h)))
theorem iv_house (h : IV σ N) : IVo σ N (opHouse σ x) := by
  unfold opHouse
  exact iv_if (fun _ => iv_same h) (fun _ => iv_if (fun _ => iv_same h) (fun _ => iv_if (fun _ => iv_same h) (fun _ => iv_if (fun _ => iv_same h) (fun _ => iv_if (fun _ => iv_same h) (fun _ => iv_if (fun _ => iv_same h) (fun _ => iv_same h))))))
theorem iv_put (h : IV σ N) : IVo σ N (opPut σ a x) := onSh_iv h (fun k hk => iv_if (fun _ => iv_same h) (fun q1 => iv_if (fun _ => iv_same h) (fun q2 => iv_if (fun _ => iv_rf h) (fun q3 => (h.ld hk (fun e => q3 (Or.inl e)) (full_n (h.1.1 k hk) q2) (x100 q1)).mono (by omega)))))
theorem iv_change {p : Int32} (h : IV σ N) : IVo σ N (opChange σ a p x) := onRw_iv h (fun k hk q => iv_if (fun _ => iv_same h) (fun _ => iv_if (fun _ => iv_same h) (fun q2 => (h.sh0 hk (fun j hj => by
  unfold up
  split
  · exact x100 q2
  · exact h.1.2.1 k hk j hj) (row_k hk q).2.1 (row_k hk q).2.2.2.1 (row_k hk q).2.2.1).mono (by omega))))
theorem iv_turn (h : IV σ N) : IVo σ N (opTurn σ a) := onRw_iv h (fun k hk q => (h.sh0 hk (fun j hj => by
  rw [← rv_at j hj]
  exact h.1.2.1 k hk _ (by omega)) (row_k hk q).2.1 (row_k hk q).2.2.2.1 (row_k hk q).2.2.1).mono (by omega))
theorem iv_swap {p o : Int32} (h : IV σ N) : IVo σ N (opSwap σ a p o) := onRw_iv h (fun k hk q => iv_if (fun _ => iv_same h) (fun q1 => iv_if (fun _ => iv_same h) (fun q2 => (h.sh0 hk (fun j hj => by
  have hc := h.1.1 k hk
  have i1 : ∀ {z : Int32}, ¬ (z < 0 ∨ nI (σ.2.1 k) ≤ z) → z.toNatClampNeg < σ.2.1 k := by
    intro z hz
    rcases idxN (σ.2.1 k) (by omega) z with g | ⟨P, hP, rfl⟩
    · exact absurd g hz
    · rw [nI_clamp (by omega)]; exact hP
  unfold up
  split
  · exact h.1.2.1 k hk _ (i1 q1)
  · split
    · exact h.1.2.1 k hk _ (i1 q2)
    · exact h.1.2.1 k hk j hj) (row_k hk q).2.1 (row_k hk q).2.2.2.1 (row_k hk q).2.2.1).mono (by omega))))
theorem iv_fill (h : IV σ N) : IVo σ N (opFill σ a x) := onRw_iv h (fun k hk q => iv_if (fun _ => iv_same h) (fun q2 => (h.sh0 hk (fun j hj => by
  unfold fiN
  split
  · exact x100 q2
  · exact absurd hj (by assumption)) (row_k hk q).2.1 (row_k hk q).2.2.2.1 (row_k hk q).2.2.1).mono (by omega)))
theorem iv_replace (h : IV σ N) : IVo σ N (opReplace σ a x y) := onRw_iv h (fun k hk q => iv_if (fun _ => iv_same h) (fun _ => iv_if (fun _ => iv_same h) (fun q2 => (h.sh0 hk (fun j hj => by
  unfold rpF
  split
  · exact x100 q2
  · exact h.1.2.1 k hk j hj) (row_k hk q).2.1 (row_k hk q).2.2.2.1 (row_k hk q).2.2.1).mono (by omega))))
theorem iv_rotate (h : IV σ N) : IVo σ N (opRotate σ a x) := onRw_iv h (fun k hk q => iv_if (fun _ => iv_same h) (fun q1 => by
  have hc := h.1.1 k hk
  by_cases c0 : σ.2.1 k = 0
  · rw [if_pos c0]
    exact (h.sh0 hk (fun j hj => h.1.2.1 k hk j hj) (row_k hk q).2.1 (row_k hk q).2.2.2.1 (row_k hk q).2.2.1).mono (by omega)
  · rw [if_neg c0]
    refine (h.sh0 hk (fun j hj => ?_) (row_k hk q).2.1 (row_k hk q).2.2.2.1 (row_k hk q).2.2.1).mono (by omega)
    have hy := (rot_k q1 (Nat.pos_of_ne_zero c0) hc).1
    obtain ⟨i, hi, rfl⟩ := wrN_sur hy hj
    rw [mvO_wr hy hi]
    exact h.1.2.1 k hk i hi))
theorem iv_insert {p : Int32} (h : IV σ N) : IVo σ N (opInsert σ a p x) := onRw_iv h (fun k hk q => iv_if (fun _ => iv_same h) (fun q1 => iv_if (fun _ => iv_same h) (fun q2 => iv_if (fun _ => iv_same h) (fun q3 => by
  have hc := h.1.1 k hk
  have hp : p.toNatClampNeg ≤ σ.2.1 k := by
    rcases idxN (σ.2.1 k + 1) (by omega) p with g | ⟨P, hP, rfl⟩
    · exact absurd (by rw [nI_1]; exact g) q1
    · rw [nI_clamp (by omega)]; omega
  have := full_n hc q3
  exact (h.sh1 hk (row_k hk q).1 (by omega) (laN_cs (Q := fun y => 0 ≤ y ∧ y ≤ 100) hp (x100 q2) (h.1.2.1 k hk)) (fun e => absurd e (row_k hk q).2.1) (fun e => absurd e (row_k hk q).2.2.1)).mono (by omega)))))
theorem iv_remove {p : Int32} (h : IV σ N) : IVo σ N (opRemove σ a p) := onRw_iv h (fun k hk q => iv_if (fun _ => iv_same h) (fun q1 => by
  have hc := h.1.1 k hk
  have hp : 0 < σ.2.1 k := by
    rcases idxN (σ.2.1 k) (by omega) p with g | ⟨P, hP, rfl⟩
    · exact absurd g q1
    · omega
  exact (h.sh1 hk (row_k hk q).1 (by omega) (liN_cs (Q := fun y => 0 ≤ y ∧ y ≤ 100) (fun j hj => h.1.2.1 k hk j (by omega))) (fun e => absurd e (row_k hk q).2.1) (fun e => absurd e (row_k hk q).2.2.1)).mono (by omega)))
theorem IV.ldm {k : Nat} (hk : k < 11) (h7 : kdO k ≠ 5) (hx : 0 ≤ x ∧ x ≤ 100) {m : Nat} : ∀ {σ : CS} {N : Nat}, IV σ N → σ.2.1 k + m ≤ 12 → IV (ldM k x m σ) (N + m) := by
  induction m with
  | zero => intro σ N h _; exact h
  | succ m ih =>
    intro σ N h hc
    unfold ldM
    have hu := ldU_c2 (σ := σ) (k := k) (x := x)
    have := ih (h.ld hk h7 (by omega) hx) (by omega)
    rw [show N + 1 + m = N + (m + 1) by omega] at this
    exact this
theorem iv_copies {m : Int32} (h : IV σ N) : IVo σ N (opCopies σ a x m) := onRw_iv h (fun k hk q => iv_if (fun _ => iv_same h) (fun q1 => iv_if (fun _ => iv_same h) (fun q2 => iv_if (fun _ => iv_same h) (fun q3 => by
  have hc := h.1.1 k hk
  rcases idxR 12 (by decide +kernel) m with g | ⟨M, hM, rfl⟩
  · exact absurd g q2
  · rw [nI_clamp (by omega)]
    have := Nat.le_of_not_lt (fun g => q3 ((roomS hc hM).mpr g))
    exact (IV.ldm hk (row_k hk q).1 (x100 q1) h this).mono (by omega)))))
/-- of the TABLE both -/
theorem IV.two {N : Nat} {f g : Nat → Int32} {c : Nat} {s t : Int32} (h : IV σ N) (hc : c ≤ 12) (hf : ∀ j, j < c → 0 ≤ f j ∧ f j ≤ 100) (hg : ∀ j, j < c → 0 ≤ g j ∧ g j ≤ 100) (hs : srt f c) : IV (sU (sU σ 6 f c (σ.2.2.1 6 + 1) s) 7 g c ((sU σ 6 f c (σ.2.2.1 6 + 1) s).2.2.1 7 + 1) t) (N + 2) := by
  have h1 := h.1.sh1 (k := 6) (t := s) (by decide +kernel) hc hf (fun e => by cases e) (fun _ => hs) (fun e => by cases e)
  have h2 := h1.sh1 (k := 7) (f := g) (c := c) (t := t) (by decide +kernel) hc hg (fun e => by cases e) (fun e => by cases e) (fun e => by cases e)
  refine ⟨h2, ?_⟩
  rw [sU_c (by decide +kernel), sU_k, sU_k]
theorem IV.li {k p : Nat} (h : IV σ N) (hk : k < 11) (hp : p < σ.2.1 k) : IV (liU σ k p) (N + 2) := by
  unfold liU
  by_cases e : kdO k = 5
  · rw [if_pos e]
    have h67 := h.2
    have h6 := h.1.1 6 (by decide +kernel)
    have hp6 : p < σ.2.1 6 := by rcases kdT hk e with e1 | e1 <;> subst e1 <;> omega
    unfold lf1
    have e1 : (sU σ 6 (liN (σ.1 6) p (σ.2.1 6 - 1)) (σ.2.1 6 - 1) (σ.2.2.1 6 + 1) (σ.2.2.2.1 6)).1 7 = σ.1 7 := sU_f (by decide +kernel)
    have e2 : (sU σ 6 (liN (σ.1 6) p (σ.2.1 6 - 1)) (σ.2.1 6 - 1) (σ.2.2.1 6 + 1) (σ.2.2.2.1 6)).2.1 7 = σ.2.1 7 := sU_c (by decide +kernel)
    rw [e1, e2, ← h67]
    refine h.two (by omega) (liN_cs (Q := fun y => 0 ≤ y ∧ y ≤ 100) (fun j hj => h.1.2.1 6 (by decide +kernel) j (by omega))) (liN_cs (Q := fun y => 0 ≤ y ∧ y ≤ 100) (fun j hj => h.1.2.1 7 (by decide +kernel) j (by omega))) ?_
    exact srt_li (by rw [show σ.2.1 6 - 1 + 1 = σ.2.1 6 by omega]; exact h.1.2.2.2.1)
  · rw [if_neg e]
    have hc := h.1.1 k hk
    refine (h.sh1 hk e (by omega) (liN_cs (Q := fun y => 0 ≤ y ∧ y ≤ 100) (fun j hj => h.1.2.1 k hk j (by omega))) (fun e3 => ?_) (fun e4 => ?_)).mono (by omega)
    · subst e3
      exact srt_li (by rw [show σ.2.1 3 - 1 + 1 = σ.2.1 3 by omega]; exact h.1.2.2.1)
    · subst e4
      exact eis_li (by rw [show σ.2.1 4 - 1 + 1 = σ.2.1 4 by omega]; exact h.1.2.2.2.2.1)
theorem iv_take (h : IV σ N) : IVo σ N (opTake σ a x) := onSh_iv h (fun k hk => iv_if (fun _ => iv_same h) (fun _ => iv_if (fun _ => iv_rf h) (fun _ => by
  cases e : fpN (σ.1 k) x 0 (σ.2.1 k) with
  | none => exact iv_same h
  | some p => exact (h.li hk (fp_i e)).mono (by omega))))
theorem srt_0 {f : Nat → Int32} : srt f 0 := fun i j _ h => absurd h (Nat.not_lt_zero _)
theorem eis_0 {f : Nat → Int32} : eis f 0 := fun i j _ h => absurd h (Nat.not_lt_zero _)
theorem I0.em (k : Nat) (h : I0 σ N) (hk : k < 11) : I0 (la1 σ k) (N + 1) := by
  unfold la1
  by_cases e : σ.2.1 k = 0
  · rw [if_pos e]
    have g := (h.sh0 (k := k) (f := σ.1 k) (t := σ.2.2.2.1 k) (h.2.1 k hk) hk (fun e3 => by subst e3; exact h.2.2.1) (fun e3 => by subst e3; exact h.2.2.2.1) (fun e3 => by subst e3; exact h.2.2.2.2.1)).mono (Nat.le_succ N)
    rw [e] at g
    exact g
  · rw [if_neg e]
    exact h.sh1 hk (by omega) (fun j hj => absurd hj (Nat.not_lt_zero _)) (fun _ => srt_0) (fun _ => srt_0) (fun _ => eis_0)
theorem iv_clear (h : IV σ N) : IVo σ N (opClear σ a) := onSh_iv h (fun k hk => by
  show IV (laU σ k) (N + 12)
  unfold laU
  by_cases e : kdO k = 5
  · rw [if_pos e]
    exact ⟨((h.1.em 6 (by decide +kernel)).em 7 (by decide +kernel)).mono (by omega), by
      have e1 : (la1 (la1 σ 6) 7).2.1 6 = (la1 σ 6).2.1 6 := sU_c (by decide +kernel)
      have e2 : (la1 (la1 σ 6) 7).2.1 7 = 0 := sU_k
      have e3 : (la1 σ 6).2.1 6 = 0 := sU_k
      rw [e1, e2, e3]⟩
  · rw [if_neg e]
    have n6 : 6 ≠ k := fun g => e (g ▸ rfl)
    have n7 : 7 ≠ k := fun g => e (g ▸ rfl)
    exact ⟨(h.1.em k hk).mono (by omega), by
      have e1 : (la1 σ k).2.1 6 = σ.2.1 6 := sU_c n6
      have e2 : (la1 σ k).2.1 7 = σ.2.1 7 := sU_c n7
      rw [e1, e2]; exact h.2⟩)
theorem iv_pair (h : IV σ N) : IVo σ N (opPair σ x y) := iv_if (fun _ => iv_same h) (fun q1 => iv_if (fun _ => iv_same h) (fun q2 => by
  cases e : fpN (σ.1 6) x 0 (σ.2.1 6) with
  | some p =>
    refine (h.sh0 (k := 7) (by decide +kernel) (fun j hj => ?_) (by decide +kernel) (by decide +kernel) (by decide +kernel)).mono (by omega)
    unfold up
    split
    · exact x99 q2
    · exact h.1.2.1 7 (by decide +kernel) j hj
  | none =>
    refine iv_if (fun _ => iv_same h) (fun q3 => ?_)
    have hc := full_n (h.1.1 6 (by decide +kernel)) q3
    have h67 := h.2
    show IV (la2 (la2 σ 6 (prR σ x) x) 7 (prR σ x) y) (N + 12)
    have hR : prR σ x ≤ σ.2.1 6 := by have := @rpN_at (σ.1 6) x (σ.2.1 6) 0; unfold prR; omega
    unfold la2
    have e1 : (sU σ 6 (laN (σ.1 6) (prR σ x) x (σ.2.1 6)) (σ.2.1 6 + 1) (σ.2.2.1 6 + 1) (σ.2.2.2.1 6)).1 7 = σ.1 7 := sU_f (by decide +kernel)
    have e2 : (sU σ 6 (laN (σ.1 6) (prR σ x) x (σ.2.1 6)) (σ.2.1 6 + 1) (σ.2.2.1 6 + 1) (σ.2.2.2.1 6)).2.1 7 = σ.2.1 7 := sU_c (by decide +kernel)
    rw [e1, e2, ← h67]
    refine (h.two (by omega) (laN_cs (Q := fun y => 0 ≤ y ∧ y ≤ 100) hR (x99 q1) (h.1.2.1 6 (by decide +kernel))) (laN_cs (Q := fun y => 0 ≤ y ∧ y ≤ 100) hR (x99 q2) (fun j hj => h.1.2.1 7 (by decide +kernel) j (by omega))) ?_).mono (by omega)
    exact srt_la h.1.2.2.2.1 hR (fun i hi => rpN_lt i (Nat.zero_le _) hi) (rpN_ge h.1.2.2.2.1 (fun i hi => fpN_none.mp e i (Nat.zero_le _) (by omega)))))
theorem IV.kp {k j m : Nat} (h : IV σ N) (hk : k < 11) (h8 : 8 ≤ k) (hj : j < 11) : IV (kpU σ k j m) (N + 1) := by
  have hc := h.1.1 j hj
  refine h.sh1 hk (li_k8 hk h8).1 (by omega) (fun i hi => ?_) (fun e => absurd e (li_k8 hk h8).2.1) (fun e => absurd e (li_k8 hk h8).2.2.1)
  rw [blN_in hi]
  exact h.1.2.1 j hj _ (by omega)
theorem iv_keep (h : IV σ N) : IVo σ N (opKeep σ a b) := onLi_iv h (fun k hk h8 => onSh_iv h (fun j hj => (h.kp hk h8 hj).mono (by omega)))
theorem iv_drop (h : IV σ N) : IVo σ N (opDrop σ a) := onWk_iv h (fun k hk => (h.wk (h.1.wk (q := (false, (σ.2.2.2.2.1 k).2)) (h.1.2.2.2.2.2.1 k hk) (fun S _ _ e => by cases e))).mono (by omega))
theorem iv_walk (h : IV σ N) : IVo σ N (opWalk σ a b y) := onWk_iv h (fun k hk => onSh_iv h (fun j hj => iv_if (fun _ => iv_same h) (fun _ => iv_if (fun _ => iv_same h) (fun _ => (h.wk (h.1.wk hj (fun S q1 _ _ => ⟨S j, Nat.le_refl _, (q1 j hj).1, fun _ => ⟨0, (show (0 : Int32) - 0 = nI 0 by decide +kernel), Nat.zero_le _, fun e => by cases e⟩⟩))).mono (by omega)))))
/-- a WALK gives m: so many there are, where it isn't stale -/
theorem IV.gv {k m : Nat} (h : IV σ N) (hk : k < 6) (hm : ∀ S : Nat → Nat, (∀ k, k < 11 → σ.2.2.1 k = nI (S k) ∧ S k ≤ N) → ∀ s, s ≤ S (wO σ k) → (σ.2.2.2.2.1 k).2.2.2.2.2.1 = nI s → s = S (wO σ k) → ∀ A, wAh σ k = nI A → A ≤ σ.2.1 (wO σ k) → A + m ≤ σ.2.1 (wO σ k)) : IV (gvU σ k m) N := by
  refine h.wk (h.1.wk (h.1.2.2.2.2.2.1 k hk) (fun S q1 q2 e => ?_))
  obtain ⟨s, a1, a2, a3⟩ := q2 k hk e
  refine ⟨s, a1, a2, fun es => ?_⟩
  obtain ⟨A, b1, b2, b3⟩ := a3 es
  refine ⟨A + m, ?_, hm S q1 s a1 a2 es A b1 b2, fun el => ?_⟩
  · have := wAh_g (m := m) b1
    unfold wAh gvU wU at this
    dsimp only at this
    rw [up_s] at this
    exact this
  · by_cases m0 : m = 0
    · have el' : (if m = 0 then (σ.2.2.2.2.1 k).2.2.2.2.2.2.2 else true) = true := el
      rw [if_pos m0] at el'
      have := b3 el'
      omega
    · omega
theorem st_s {k s : Nat} {S : Nat → Nat} (h : IV σ N) (hk : k < 6) (q1 : ∀ k, k < 11 → σ.2.2.1 k = nI (S k) ∧ S k ≤ N) (hss : (σ.2.2.2.2.1 k).2.2.2.2.2.1 = nI s) (es : s = S (wO σ k)) : wSt σ k = false := decide_eq_false (p := σ.2.2.1 (wO σ k) ≠ (σ.2.2.2.2.1 k).2.2.2.2.2.1) (fun q => q (by rw [(q1 _ (h.1.2.2.2.2.2.1 k hk)).1, hss, es]))
theorem iv_next (h : IV σ N) : IVo σ N (opNext σ a) := onWk_iv h (fun k hk => iv_if (fun _ => iv_same h) (fun _ => iv_if (fun _ => iv_rf h) (fun q2 => (h.gv hk (fun S q1 s a1 a2 es A b1 b2 => by
  have hs := st_s h hk q1 a2 es
  have hc := h.1.1 _ (h.1.2.2.2.2.2.1 k hk)
  have g : wHM σ k = true := mkT q2
  rw [wHM_m hs, b1] at g
  have := (nI_ltI (by omega) (by omega)).mp (of_decide_eq_true g)
  omega)).mono (by omega))))
theorem gu_le {k m : Nat} (h : IV σ N) (hk : k < 6) : ∀ S : Nat → Nat, (∀ k, k < 11 → σ.2.2.1 k = nI (S k) ∧ S k ≤ N) → ∀ s, s ≤ S (wO σ k) → (σ.2.2.2.2.1 k).2.2.2.2.2.1 = nI s → s = S (wO σ k) → ∀ A, wAh σ k = nI A → A ≤ σ.2.1 (wO σ k) → A + wGu σ k m ≤ σ.2.1 (wO σ k) := by
  intro S q1 s a1 a2 es A b1 b2
  have hs := st_s h hk q1 a2 es
  have hc := h.1.1 _ (h.1.2.2.2.2.2.1 k hk)
  rw [wGu_c hs hc b1 b2]
  split <;> omega
theorem iv_skip (h : IV σ N) : IVo σ N (opSkip σ a x) := onWk_iv h (fun k hk => iv_if (fun _ => iv_same h) (fun _ => iv_if (fun _ => iv_same h) (fun _ => iv_if (fun _ => iv_rf h) (fun _ => (h.gv hk (gu_le h hk)).mono (by omega)))))
theorem iv_pour (h : IV σ N) : IVo σ N (opPour σ a b) := onSh_iv h (fun k hk => onSh_iv h (fun j hj => iv_if (fun _ => iv_same h) (fun q1 => iv_if (fun _ => iv_rf h) (fun q2 => by
  have hck := h.1.1 k hk
  have hcj := h.1.1 j hj
  have hr := Nat.le_of_not_lt (fun g => q1 ((roomS hcj hck).mpr g))
  have h7 : kdO j ≠ 5 := fun e => q2 (cpB_1 e)
  have e := pb_ca (s := k) (j := j) (c := σ.2.1 k) (f := σ.1 k) hk hj 0 (σ.2.1 k) 0 false σ (fun _ _ => rfl) (Nat.le_refl _) hck hr (by omega)
  show IV (pbM k j (0 + 0) (σ.2.1 k) false σ).2 (N + 12)
  rw [e]
  exact (IV.ca hj h7 h hr (fun i _ hi => h.1.2.1 k hk _ (by omega))).mono (by omega)))))
theorem cfN_ne {a b c e : Int32} {m : Nat} : ∀ {j : Nat} (i : Nat), j ≤ i → i < cfN a b c e j m → o4 (nI i) a b c e ≠ -1 := by
  induction m with
  | zero => intro j i h1 h2; unfold cfN at h2; omega
  | succ m ih =>
    intro j i h1 h2
    unfold cfN at h2
    by_cases q : o4 (nI j) a b c e = -1
    · rw [if_pos q] at h2; omega
    · rw [if_neg q] at h2
      by_cases g : i = j
      · rw [g]; exact q
      · exact ih i (by omega) h2
theorem m1_0 {x : Int32} (q : ¬ (x < -1 ∨ 100 < x)) (n : x ≠ -1) : 0 ≤ x ∧ x ≤ 100 := by
  refine ⟨?_, Int32.not_lt.mp (fun g => q (Or.inr g))⟩
  have h1 : (-1 : Int32) ≤ x := Int32.not_lt.mp (fun g => q (Or.inl g))
  have h2 : (-1 : Int32) < x := Int32.lt_of_le_of_ne h1 (fun e => n e.symm)
  have t1 := Int32.lt_iff_toInt_lt.mp h2
  rw [Int32.le_iff_toInt_le]
  have e1 : (-1 : Int32).toInt = -1 := by decide +kernel
  have e2 : (0 : Int32).toInt = 0 := by decide +kernel
  omega
theorem liU_c {σ : CS} {k p : Nat} (hk : k < 11) (h67 : σ.2.1 6 = σ.2.1 7) : (liU σ k p).2.1 k = σ.2.1 k - 1 := by
  unfold liU
  by_cases e : kdO k = 5
  · rw [if_pos e]
    rcases kdT hk e with e1 | e1
    · subst e1
      have g1 : (lf1 (lf1 σ 6 p) 7 p).2.1 6 = (lf1 σ 6 p).2.1 6 := sU_c (by decide +kernel)
      have g2 : (lf1 σ 6 p).2.1 6 = σ.2.1 6 - 1 := sU_k
      rw [g1, g2]
    · subst e1
      have g1 : (lf1 (lf1 σ 6 p) 7 p).2.1 7 = (lf1 σ 6 p).2.1 7 - 1 := sU_k
      have g2 : (lf1 σ 6 p).2.1 7 = σ.2.1 7 := sU_c (by decide +kernel)
      rw [g1, g2]
  · rw [if_neg e]
    exact up_s
theorem iv_to {k : Nat} (h : IV σ N) (hN : N < 2 ^ 31) (hk : k < 6) (hs : wSt σ k = false) (hct : (σ.2.2.2.2.1 k).2.2.2.2.2.2.2 = true) (hm : (σ.2.2.2.2.1 k).1 = true) : IV (toU σ k (liU σ (wO σ k) ((wAh σ k).toNatClampNeg - 1))) (N + 12) := by
  have ov := h.1.2.2.2.2.2.1 k hk
  have hc := h.1.1 _ ov
  obtain ⟨A, b1, b2, b3⟩ := (h.iv hN).2.2.2.2.2.2.2 k hk hm hs
  have hA0 := b3 hct
  rw [tcl (by omega) b1]
  have hl := h.li ov (p := A - 1) (by omega)
  have hcc := liU_c (σ := σ) (p := A - 1) ov h.2
  refine IV.mono (N := N + 2) (hl.wk (hl.1.wk ov (fun S q1 _ _ => ⟨S (wO σ k), Nat.le_refl _, (q1 _ ov).1, fun _ => ⟨A - 1, ?_, ?_, fun e => by cases e⟩⟩))) (by omega)
  · show (σ.2.2.2.2.1 k).2.2.2.1 - ((σ.2.2.2.2.1 k).2.2.2.2.1 + 1) = nI (A - 1)
    rw [i_sub2, show (σ.2.2.2.2.1 k).2.2.2.1 - (σ.2.2.2.2.1 k).2.2.2.2.1 = nI A from b1, nI_m1 hA0]
  · show A - 1 ≤ (liU σ (wO σ k) (A - 1)).2.1 (wO σ k)
    rw [hcc]
    omega
theorem iv_putAll {c e : Int32} (h : IV σ N) : IVo σ N (opPutAll σ a b x c e) := onSh_iv h (fun k hk => iv_if (fun _ => iv_same h) (fun q1 => iv_if (fun _ => iv_same h) (fun q2 => iv_if (fun _ => iv_same h) (fun q3 => iv_if (fun _ => iv_same h) (fun q4 => iv_if (fun _ => iv_same h) (fun q5 => iv_if (fun _ => iv_rf h) (fun q6 => iv_if (fun _ => iv_rf h) (fun _ => by
  have hck := h.1.1 k hk
  have hcf := (cfN_le (a := b) (b := x) (c := c) (e := e) (m := 4) (j := 0)).2
  have hr := Nat.le_of_not_lt (fun g => q5 ((roomS hck (by omega)).mpr g))
  show IV (paM k b x c e 0 (cfN b x c e 0 4) false σ).2 (N + 12)
  rw [caM_pa]
  refine (IV.ca hk q6 h hr (fun i _ hi => ?_)).mono (by omega)
  have hn := cfN_ne (a := b) (b := x) (c := c) (e := e) (j := 0) (m := 4) i (Nat.zero_le _) (by omega)
  have hb : ¬ (o4 (nI i) b x c e < -1 ∨ 100 < o4 (nI i) b x c e) := by
    unfold o4
    split
    · exact q1
    · split
      · exact q2
      · split
        · exact q3
        · exact q4
  exact m1_0 hb hn))))))))
theorem iv_takeOut (h : IV σ N) (hN : N < 2 ^ 31) : IVo σ N (opTakeOut σ a) := onWk_iv h (fun k hk => iv_if (fun _ => iv_same h) (fun q0 => iv_if (fun _ => iv_rf h) (fun q => by
  have hs : wSt σ k = false := by
    cases e : wSt σ k with
    | false => rfl
    | true => exact absurd (Or.inl e) q
  have hct : (σ.2.2.2.2.1 k).2.2.2.2.2.2.2 = true := by
    cases e : (σ.2.2.2.2.1 k).2.2.2.2.2.2.2 with
    | true => rfl
    | false => exact absurd (Or.inr (Or.inr (Or.inr (wCt_f1 e)))) q
  exact iv_to h hN hk hs hct (mkT q0))))
theorem iv_keepRest (h : IV σ N) : IVo σ N (opKeepRest σ a b) := onWk_iv h (fun k hk => onLi_iv h (fun j hj h8 => iv_if (fun _ => iv_same h) (fun q0 => iv_if (fun _ => iv_rf h) (fun _ => by
  have e : krU σ k j (wAh σ k).toNatClampNeg (wGu σ k 12) = kpU (gvU σ k (wGu σ k 12)) j (wO σ k) (wAh σ k).toNatClampNeg := rfl
  show IV (krU σ k j (wAh σ k).toNatClampNeg (wGu σ k 12)) (N + 12)
  rw [e]
  exact ((h.gv hk (gu_le h hk)).kp hj h8 (h.1.2.2.2.2.2.1 k hk)).mono (by omega)))))
theorem iv_pourRest (h : IV σ N) (hN : N < 2 ^ 31) : IVo σ N (opPourRest σ a b) := onWk_iv h (fun k hk => onSh_iv h (fun j hj => iv_if (fun _ => iv_same h) (fun q0 => iv_if (fun _ => iv_same h) (fun q1 => iv_if (fun _ => iv_rf h) (fun q2 => by
  have ov := h.1.2.2.2.2.2.1 k hk
  have hc := h.1.1 _ ov
  have hcj := h.1.1 j hj
  have hr := Nat.le_of_not_lt (fun g => q1 ((roomS hcj hc).mpr g))
  have h7 : kdO j ≠ 5 := fun e => q2 (Or.inr (cpB_1 e))
  have hga : wGa σ k = true := by
    cases e : wGa σ k with
    | true => rfl
    | false => exact absurd (Or.inl e) q2
  obtain ⟨A, eA, hA⟩ := wi_at ((h.iv hN).2.2.2.2.2.2.2 k hk) q0 hga
  show IV (pbM (wO σ k) j (wAh σ k).toNatClampNeg (σ.2.1 (wO σ k) - (wAh σ k).toNatClampNeg) false (gvU σ k (wGu σ k 12))).2 (N + 12)
  rw [tcl (by omega) eA]
  have e := pb_ca (s := wO σ k) (j := j) (c := σ.2.1 (wO σ k)) (f := σ.1 (wO σ k)) ov hj A (σ.2.1 (wO σ k) - A) 0 false (gvU σ k (wGu σ k 12)) (fun _ _ => rfl) (Nat.le_refl _) hc (by show σ.2.1 j + (σ.2.1 (wO σ k) - A) ≤ 12; omega) (by omega)
  rw [show pbM (wO σ k) j A (σ.2.1 (wO σ k) - A) false (gvU σ k (wGu σ k 12)) = _ from e]
  exact (IV.ca hj h7 (h.gv hk (gu_le h hk)) (by show σ.2.1 j + (σ.2.1 (wO σ k) - (A + 0)) ≤ 12; omega) (fun i _ hi => h.1.2.1 _ ov _ (by omega))).mono (by omega))))))
end
end
section
/-! 52.text -/
/-! the class's text calls: some text, of so many letters at most -/
/-- what stands between i and n0 is otherwise, the StringBuilder isn't -/
theorem SbF.frW {h h' : AH} {n n' n0 b N m : Nat} (hS : SbF h n n0 b N m) (hF : ∀ i, n0 ≤ i → i < n → h' i = h i) (hn : n ≤ n') : SbF h' n' n0 b N m := by
  obtain ⟨a, f, fl, h1, h2, h3, h4, h7, h8, h9, h10, h11⟩ := hS
  exact ⟨a, f, fl, (hF b h9 h10).trans h1, (hF a h7 h8).trans h2, h3, h4, h7, by omega, h9, by omega, h11⟩
/-- some text -/
def TXo (h : AH) (n M : Nat) : ARes → AH → Nat → Prop := fun r' h' n' => n ≤ n' ∧ ∃ t L, r' = .inl (some (.ref t)) ∧ L ≤ M ∧ StN h' n' n t L ∧ ∀ i, i < n → h' i = h i
theorem txo_k {A : Nat → AH → Option Value → Prop} {h : AH} {n M m : Nat} (k : ∀ h' n' t L, n ≤ n' → L ≤ M → StN h' n' n t L → (∀ i, i < n → h' i = h i) → A n' h' (some (.ref t))) : ∀ (v : Option Value) (h' : AH) (n' : Nat), m ≤ n' → TXo h n M (.inl v) h' n' → A n' h' v := by
  rintro v h' n' - ⟨g1, t, L, e, g2, g3, g4⟩
  cases e
  exact k h' n' t L g1 g2 g3 g4
theorem txo_x {A : Prop} {h : AH} {n M : Nat} {E : String} {h' : AH} {n' : Nat} (z : TXo h n M (.inr E) h' n') : A := by
  obtain ⟨-, t, L, e, -⟩ := z
  cases e
theorem StN.low {h : AH} {n' n m t L : Nat} (hS : StN h n' n t L) (hm : m ≤ n) : StN h n' m t L := by
  obtain ⟨v, f, r, h1, h2, h3, h4, h5, h6, h7⟩ := hS
  exact ⟨v, f, r, h1, h2, h3, by omega, h5, by omega, h7⟩
/-- the end of a text call of the class -/
def CTo (h : AH) (n : Nat) (q : ARes × CS) : ARes → AH → Nat → Prop := fun r' h' n' => n ≤ n' ∧ (match q.1 with
  | .inr E => r' = .inr E
  | .inl _ => ∃ t, r' = .inl (some (.ref t))) ∧ RC h' q.2 ∧ FrC h h' n
theorem RC.frT {h h' : AH} {σ : CS} (hR : RC h σ) (hF : ∀ i, i < 135 → h' i = h i) : RC h' σ := by
  obtain ⟨h1, ⟨g, h2, h2'⟩, ⟨g', h3, h3'⟩, h4, h5, h6, h7, ⟨f, c, s, t, h8⟩, h9⟩ := hR
  refine ⟨(hF 100 (by decide +kernel)).trans h1, ⟨g, (hF 101 (by decide +kernel)).trans h2, h2'⟩, ⟨g', (hF 124 (by decide +kernel)).trans h3, h3'⟩, fun k hk => ?_, fun k hk => ?_, ?_, ?_, ⟨f, c, s, t, ?_⟩, fun k q1 q2 => ?_⟩
  · have z := h4 k hk
    exact ⟨(hF _ (by omega)).trans z.1, (hF _ (by omega)).trans z.2.1, z.2.2⟩
  · have z := h5 k hk
    exact ⟨z.1, (hF _ (by omega)).trans z.2.1, z.2.2⟩
  · obtain ⟨mk, b, sh, hw, gi, tk, ss, ts, la, z⟩ := h6
    exact ⟨mk, b, sh, hw, gi, tk, ss, ts, la, (hF _ (by decide +kernel)).trans z.1, z.2⟩
  · obtain ⟨mk, b, sh, hw, gi, tk, ss, ts, la, z⟩ := h7
    exact ⟨mk, b, sh, hw, gi, tk, ss, ts, la, (hF _ (by decide +kernel)).trans z.1, z.2⟩
  · exact ⟨(hF _ (by decide +kernel)).trans h8.1, (hF _ (by decide +kernel)).trans h8.2.1, h8.2.2⟩
  · have z := h9 k q1 q2
    exact ⟨z.1, (hF _ (by omega)).trans z.2⟩
/-- the things that lie there -/
def thI (σ : CS) : Prop := ∀ k, k < 11 → ∀ j, j < σ.2.1 k → 0 ≤ σ.1 k j ∧ σ.1 k j ≤ 100
theorem thI.at {σ : CS} (h : thI σ) {k j : Nat} (hk : k < 11) (hj : j < σ.2.1 k) : ∃ x, x ≤ 100 ∧ σ.1 k j = nI x := by
  have q := h k hk j hj
  obtain ⟨x, hx, e⟩ := nI_of (x := σ.1 k j) (Int32.not_lt.mpr q.1)
  exact ⟨x, (nI_leI (a := x) (b := 100) hx (by decide +kernel)).mp (e ▸ q.2), e⟩
def opText (σ : CS) (a : Int32) : ARes × CS := onSh a σ (fun _ => (ivN, σ))
def opRest (σ : CS) (a : Int32) : ARes × CS := onWk a σ (fun k => if (σ.2.2.2.2.1 k).1 = false then (xS, σ) else if wGa σ k = false then (ivN, rfU σ) else (ivN, gvU σ k (wGu σ k 12)))
/-- two WALKS give in turn -/
def zpU (σ : CS) (k j : Nat) : Nat → CS
  | 0 => σ
  | m + 1 => if wHM σ k = true ∧ wHM σ j = true then zpU (gvU (gvU σ k 1) j 1) k j m else σ
def opZip (σ : CS) (a b : Int32) : ARes × CS := onWk a σ (fun k => onWk b σ (fun j => if nI k = nI j then (xA, σ) else if (σ.2.2.2.2.1 k).1 = false then (xS, σ) else if (σ.2.2.2.2.1 j).1 = false then (xS, σ) else if wSt σ k = true ∨ wSt σ j = true then (ivN, rfU σ) else (ivN, zpU σ k j 12)))
theorem gv_wk {σ : CS} {k j m : Nat} (h : j ≠ k) : (gvU σ k m).2.2.2.2.1 j = σ.2.2.2.2.1 j := up_n h
theorem gv_hm {σ : CS} {k j m : Nat} (h : j ≠ k) : wHM (gvU σ k m) j = wHM σ j := by
  unfold wHM wO
  rw [gv_wk h]
  rfl
theorem gv_mk {σ : CS} {k m : Nat} : ((gvU σ k m).2.2.2.2.1 k).1 = (σ.2.2.2.2.1 k).1 := by
  unfold gvU wU
  dsimp only
  rw [up_s]
theorem iv_g1 {σ : CS} {N k : Nat} (h : IV σ N) (hk : k < 6) (g : wHM σ k = true) : IV (gvU σ k 1) N := h.gv hk (fun S q1 s a1 a2 es A b1 b2 => by
  have hs := st_s h hk q1 a2 es
  have hc := h.1.1 _ (h.1.2.2.2.2.2.1 k hk)
  rw [wHM_m hs, b1] at g
  have := (nI_ltI (by omega) (by omega)).mp (of_decide_eq_true g)
  omega)
theorem iv_zp {N k j : Nat} (hk : k < 6) (hj : j < 6) (hne : k ≠ j) (m : Nat) : ∀ {σ : CS}, IV σ N → IV (zpU σ k j m) N := by
  induction m with
  | zero => intro σ h; exact h
  | succ m ih =>
    intro σ h
    unfold zpU
    by_cases q : wHM σ k = true ∧ wHM σ j = true
    · rw [if_pos q]
      exact ih (iv_g1 (iv_g1 h hk q.1) hj ((gv_hm (Ne.symm hne)).trans q.2))
    · rw [if_neg q]
      exact h
theorem iv_text {σ : CS} {N : Nat} {a : Int32} (h : IV σ N) : IVo σ N (opText σ a) := onSh_iv h (fun _ _ => iv_same h)
theorem iv_rest {σ : CS} {N : Nat} {a : Int32} (h : IV σ N) : IVo σ N (opRest σ a) := onWk_iv h (fun k hk => iv_if (fun _ => iv_same h) (fun _ => iv_if (fun _ => iv_rf h) (fun _ => (h.gv hk (gu_le h hk)).mono (by omega))))
theorem iv_zip {σ : CS} {N : Nat} {a b : Int32} (h : IV σ N) : IVo σ N (opZip σ a b) := onWk_iv h (fun k hk => onWk_iv h (fun j hj => iv_if (fun _ => iv_same h) (fun q1 => iv_if (fun _ => iv_same h) (fun _ => iv_if (fun _ => iv_same h) (fun _ => iv_if (fun _ => iv_rf h) (fun _ => (iv_zp hk hj (fun e => q1 (by rw [e])) 12 h).mono (by omega)))))))
/-- what a WALK gives, where there is more -/
theorem hm_at {σ : CS} {N k : Nat} (h : IV σ N) (hN : N < 2 ^ 31) (hk : k < 6) (hm : (σ.2.2.2.2.1 k).1 = true) (g : wHM σ k = true) : ∃ A : Nat, wAh σ k = nI A ∧ A < σ.2.1 (wO σ k) := by
  have hI := h.iv hN
  have hs : wSt σ k = false := by
    cases e : wSt σ k with
    | false => rfl
    | true => rw [wHM_s e] at g; cases g
  obtain ⟨A, eA, hA, -⟩ := hI.2.2.2.2.2.2.2 k hk hm hs
  have hc := hI.1 _ (hI.2.2.2.2.2.2.1 k hk)
  rw [wHM_m hs, eA] at g
  exact ⟨A, eA, (nI_ltI (by omega) (by omega)).mp (of_decide_eq_true g)⟩
theorem hm_th {σ : CS} {N k : Nat} (h : IV σ N) (hN : N < 2 ^ 31) (hk : k < 6) (hm : (σ.2.2.2.2.1 k).1 = true) (g : wHM σ k = true) : ∃ x : Nat, x ≤ 100 ∧ taI (σ.1 (wO σ k)) (σ.2.1 (wO σ k)) (wAh σ k) = nI x := by
  have hI := h.iv hN
  obtain ⟨A, eA, hA⟩ := hm_at h hN hk hm g
  rw [eA, taI_in hA (hI.1 _ (hI.2.2.2.2.2.2.1 k hk))]
  exact (show thI σ from hI.2.2.1).at (hI.2.2.2.2.2.2.1 k hk) hA
theorem m_appendBlank {h : AH} {d bc bs n : Nat} {n0 b N m q : Nat} {x : Int32} (hS : SbF h n n0 b N m) (h0 : 100 ≤ n0) (hm : m ≤ 2000) (hq : q = if 0 < x then N + 1 else N) (hN : N + 1 ≤ 1000) (hd : 7 ≤ d) (h1 : 1 ≤ bc) (h2 : grC m q ≤ bs) : SM SR0 MX3_appendBlankBehindFirst d bc bs [.ref b, .int x] h n (SBo h n n n0 b q (capN m q) none) := by
  obtain ⟨a0, f0, fl0, hS0, -⟩ := id hS
  refine sm_of pn_Overwalks rfl (Nat.le_of_ble_eq_true rfl) ?_
  refine sw_iload_n (pc' := 1) rfl dX3_appendBlankBehindFirst_0 rfl ?_
  refine sw_if_le (pc' := 4) (tgt := 11) rfl dX3_appendBlankBehindFirst_1 (by decide +kernel) (fun c1 => ?_) (fun c1 => ?_)
  · rw [if_neg (Int32.not_lt.mpr c1)] at hq
    subst hq
    refine sw_ret (v := none) ⟨dX3_appendBlankBehindFirst_11, rfl⟩ ?_
    rw [capN_s hS.rm]
    exact ⟨rfl, Nat.le_refl _, hS, fun _ _ => rfl⟩
  · rw [if_pos (Int32.not_le.mp c1)] at hq
    subst hq
    refine sw_aload_n (pc' := 5) rfl dX3_appendBlankBehindFirst_4 rfl ?_
    refine sw_bipush (pc' := 7) (v := 32) rfl dX3_appendBlankBehindFirst_5 (by decide +kernel) ?_
    refine sw_V (M' := MJ4_append_cf468) (d' := d - 1) (bc' := 1) (bs' := (grC m (N + 1))) (ci := 1) (as := [_]) dX3_appendBlankBehindFirst_7 w_715 ok_J4_append_cf468 (j_appendC hS (Nat.le_refl _) h0 hm (by decide +kernel) (by omega) (by omega) (Nat.le_refl _) (Nat.le_refl _)) hS0 rfl (by omega) (Nat.le_of_ble_eq_true rfl) (by omega) (by omega) (fun E h' n' _ z => sbo_x z) (sbo_k (fun p pn pk pS pF => ?_))
    refine sw_pop (pc' := 11) rfl dX3_appendBlankBehindFirst_10 rfl ?_
    refine sw_ret (v := none) ⟨dX3_appendBlankBehindFirst_11, rfl⟩ ?_
    exact ⟨rfl, pk, pS, pF⟩
theorem m_appendThing {h : AH} {d bc bs n : Nat} {n0 b N m q k : Nat} (hS : SbF h n n0 b N m) (h0 : 100 ≤ n0) (hm : m ≤ 2000) (hT : TXT h) (hk : k ≤ 100) (hq : q = N + (if k = 100 then 1 else dgt k)) (hN : N + 2 ≤ 1000) (hd : 7 ≤ d) (h1 : 1 ≤ bc) (h2 : grC m q ≤ bs) : SM SR0 MX3_appendThing d bc bs [.ref b, .int (nI k)] h n (SBo h n n n0 b q (capN m q) none) := by
  obtain ⟨a0, f0, fl0, hS0, -⟩ := id hS
  refine sm_of pn_Overwalks rfl (Nat.le_of_ble_eq_true rfl) ?_
  refine sw_iload_n (pc' := 1) rfl dX3_appendThing_0 rfl ?_
  refine sw_bipush (pc' := 3) (v := 100) rfl dX3_appendThing_1 (by decide +kernel) ?_
  refine sw_icmp_ne (pc' := 6) (tgt := 16) rfl dX3_appendThing_3 (by decide +kernel) (fun c3 => ?_) (fun c3 => ?_)
  · have k2 : k ≠ 100 := fun e => c3 (by rw [e]; rfl)
    have k1 : k < 100 := by omega
    rw [if_neg k2] at hq
    subst hq
    refine sw_aload_n (pc' := 17) rfl dX3_appendThing_16 rfl ?_
    refine sw_iload_n (pc' := 18) rfl dX3_appendThing_17 rfl ?_
    have hdl : dgt k ≤ 2 := by unfold dgt; split <;> omega
    refine sw_V (M' := MJ4_append_bf812) (d' := d - 1) (bc' := 1) (bs' := (grC m (N + dgt k))) (ci := 1) (as := [_]) dX3_appendThing_18 w_813 ok_J4_append_bf812 (j_appendI hS (Nat.le_refl _) h0 hm hT k1 (by omega) (by omega) (Nat.le_refl _) (Nat.le_refl _)) hS0 rfl (by omega) (Nat.le_of_ble_eq_true rfl) (by omega) (by omega) (fun E h' n' _ z => sbo_x z) (sbo_k (fun p pn pk pS pF => ?_))
    refine sw_pop (pc' := 22) rfl dX3_appendThing_21 rfl ?_
    refine sw_ret (v := none) ⟨dX3_appendThing_22, rfl⟩ ?_
    exact ⟨rfl, pk, pS, pF⟩
  · have k2 : k = 100 := (nI_eq (b := 100) (by omega) (by decide +kernel)).mp c3
    rw [if_pos k2] at hq
    subst hq
    refine sw_aload_n (pc' := 7) rfl dX3_appendThing_6 rfl ?_
    refine sw_bipush (pc' := 9) (v := 45) rfl dX3_appendThing_7 (by decide +kernel) ?_
    refine sw_V (M' := MJ4_append_cf468) (d' := d - 1) (bc' := 1) (bs' := (grC m (N + 1))) (ci := 1) (as := [_]) dX3_appendThing_9 w_715 ok_J4_append_cf468 (j_appendC hS (Nat.le_refl _) h0 hm (by decide +kernel) (by omega) (by omega) (Nat.le_refl _) (Nat.le_refl _)) hS0 rfl (by omega) (Nat.le_of_ble_eq_true rfl) (by omega) (by omega) (fun E h' n' _ z => sbo_x z) (sbo_k (fun p pn pk pS pF => ?_))
    refine sw_pop (pc' := 13) rfl dX3_appendThing_12 rfl ?_
    refine sw_goto (tgt := 22) dX3_appendThing_13 (by decide +kernel) ?_
    refine sw_ret (v := none) ⟨dX3_appendThing_22, rfl⟩ ?_
    exact ⟨rfl, pk, pS, pF⟩
theorem tl_le {k : Nat} : 1 ≤ (if k = 100 then 1 else dgt k) ∧ (if k = 100 then 1 else dgt k) ≤ 2 := by unfold dgt; split <;> (try split) <;> omega
theorem l_textBehind {h0 : AH} {d n k s b : Nat} {σ : CS} (hR : RC h0 σ) (hT : TXT h0) (hI : thI σ) (hk : k < 11) (hn : 135 ≤ n) (hd : 9 ≤ d) (m : Nat) : ∀ (i bc bs pn N r : Nat) (p : AH), i + m = σ.2.1 k → s ≤ i → n ≤ pn → SbF p pn n b N r → N ≤ 3 * (i - s) → r ≤ 80 → (∀ j, j < n → p j = h0 j) → 2 * m + 2 ≤ bc → 2 * (80 - r) + 44 ≤ bs → SW SR0 MX3_textBehind d bc bs 10 [(3, .int (nI i)), (2, .ref b), (0, .ref (102 + 2 * k)), (1, .int (nI s))] [] p pn (TXo h0 n 47) := by
  have hc := (hR.sh hk).2.2.1
  induction m with
  | zero =>
    intro i bc bs pn N r p hi hs hnp hS hNi hr hF h1 h2
    have pR : RC p σ := hR.frT (fun j hj => hF j (by omega))
    obtain ⟨a0, f0, fl0, hS0, -⟩ := id hS
    refine sw_iload_n (pc' := 11) rfl dX3_textBehind_10 rfl ?_
    refine sw_aload_n (pc' := 12) rfl dX3_textBehind_11 rfl ?_
    refine sw_getf (ci := 2) (k := 2) (pc' := 15) rfl dX3_textBehind_12 (by decide +kernel) w_84 (pR.sh hk).1 rfl ?_
    refine sw_icmp_ge (pc' := 18) (tgt := 40) rfl dX3_textBehind_15 (by decide +kernel) (fun c15 => ?_) (fun c15 => ?_)
    · refine sw_aload_n (pc' := 41) rfl dX3_textBehind_40 rfl ?_
      refine sw_V (M' := MJ4_toString_0e30d) (d' := d - 1) (bc' := 2) (bs' := (N + 4)) (ci := 1) (as := []) dX3_textBehind_41 w_847 ok_J4_toString_0e30d (j_toString hS (by omega) (by omega) (Nat.le_refl _) (Nat.le_refl _) (by omega)) hS0 rfl (by omega) (Nat.le_of_ble_eq_true rfl) (by omega) (by omega) (fun E h' n' _ z => spo_x z) (spo_k (fun q qn t qk qS qF => ?_))
      refine sw_ret (v := some _) ⟨dX3_textBehind_44, _, rfl, Or.inl ⟨_, rfl⟩⟩ ?_
      exact ⟨by omega, t, N, rfl, by omega, qS.low (by omega), fun j hj => (qF j (by omega)).trans (hF j hj)⟩
    · exact absurd ((nI_leI (by omega) (by omega)).mpr (by omega)) c15
  | succ m ih =>
    intro i bc bs pn N r p hi hs hnp hS hNi hr hF h1 h2
    have pR : RC p σ := hR.frT (fun j hj => hF j (by omega))
    have hic : i < σ.2.1 k := by omega
    obtain ⟨x, hx, ex⟩ := hI.at hk hic
    refine sw_iload_n (pc' := 11) rfl dX3_textBehind_10 rfl ?_
    refine sw_aload_n (pc' := 12) rfl dX3_textBehind_11 rfl ?_
    refine sw_getf (ci := 2) (k := 2) (pc' := 15) rfl dX3_textBehind_12 (by decide +kernel) w_84 (pR.sh hk).1 rfl ?_
    refine sw_icmp_ge (pc' := 18) (tgt := 40) rfl dX3_textBehind_15 (by decide +kernel) (fun c15 => ?_) (fun c15 => ?_)
    · exact absurd c15 (nI_ge (by omega) (by omega))
    · refine sw_aload_n (pc' := 19) rfl dX3_textBehind_18 rfl ?_
      refine sw_iload_n (pc' := 20) rfl dX3_textBehind_19 rfl ?_
      refine sw_iload_n (pc' := 21) rfl dX3_textBehind_20 rfl ?_
      refine sw_isub (pc' := 22) rfl dX3_textBehind_21 ?_
      rw [show nI i - nI s = nI (i - s) from pk_sub hs]
      obtain ⟨q1, hq1⟩ : ∃ q1, q1 = if 0 < nI (i - s) then N + 1 else N := ⟨_, rfl⟩
      have hb1 : N ≤ q1 ∧ q1 ≤ N + 1 := by rw [hq1]; split <;> omega
      obtain ⟨o1, o2, o3, o4⟩ := pot (m := r) (q := q1) (K := 80) (by omega) (by omega)
      refine sw_S (M' := MX3_appendBlankBehindFirst) (d' := d - 1) (bc' := 1) (bs' := (grC r q1)) (as := [_, _]) dX3_textBehind_22 w_712 ok_X3_appendBlankBehindFirst (m_appendBlank hS (by omega) (by omega) hq1 (by omega) (by omega) (Nat.le_refl _) (Nat.le_refl _)) (by omega) (Nat.le_of_ble_eq_true rfl) (by omega) (by omega) (fun E h' n' _ z => sbo_x z) (sbo_k (fun q qn qk qS qF => ?_))
      have qR : RC q σ := hR.frT (fun j hj => (qF j (by omega)).trans (hF j (by omega)))
      refine sw_aload_n (pc' := 26) rfl dX3_textBehind_25 rfl ?_
      refine sw_aload_n (pc' := 27) rfl dX3_textBehind_26 rfl ?_
      refine sw_iload_n (pc' := 28) rfl dX3_textBehind_27 rfl ?_
      refine sw_V (M' := MX1_thingAt) (d' := d - 1) (bc' := 0) (bs' := 0) (ci := 2) (as := [_]) dX3_textBehind_28 w_230 ok_X1_thingAt (m_thingAt (qR.sh hk)) (qR.sh hk).1 rfl (by omega) (Nat.le_of_ble_eq_true rfl) (Nat.zero_le _) (Nat.zero_le _) (fun E h' n' _ z => det_x z) (det_k ?_)
      rw [taI_in hic hc, ex]
      obtain ⟨q2, hq2⟩ : ∃ q2, q2 = q1 + (if x = 100 then 1 else dgt x) := ⟨_, rfl⟩
      have tl := tl_le (k := x)
      obtain ⟨u1, u2, u3, u4⟩ := pot (m := capN r q1) (q := q2) (K := 80) (by omega) (by omega)
      refine sw_S (M' := MX3_appendThing) (d' := d - 1) (bc' := 1) (bs' := (grC (capN r q1) q2)) (as := [_, _]) dX3_textBehind_31 w_810 ok_X3_appendThing (m_appendThing qS (by omega) (by omega) (hT.fr (fun j hj => (qF j (by omega)).trans (hF j (by omega)))) hx hq2 (by omega) (by omega) (Nat.le_refl _) (Nat.le_refl _)) (by omega) (Nat.le_of_ble_eq_true rfl) (by omega) (by omega) (fun E h' n' _ z => sbo_x z) (sbo_k (fun w wn wk wS wF => ?_))
      refine sw_iinc (pc' := 37) (lv' := [(3, _), (2, _), (0, _), (1, _)]) (v := nI (i + 1)) rfl dX3_textBehind_34 rfl (nI_1 i) (by decide +kernel) rfl ?_
      refine sw_goto (tgt := 10) dX3_textBehind_37 (by decide +kernel) ?_
      exact ih (i + 1) _ _ wn q2 _ w (by omega) (by omega) (by omega) wS (by omega) u2 (fun j hj => ((wF j (by omega)).trans (qF j (by omega))).trans (hF j hj)) (by omega) (by omega)
theorem m_textBehind {h : AH} {d bc bs n k s : Nat} {σ : CS} (hR : RC h σ) (hT : TXT h) (hI : thI σ) (hk : k < 11) (hs : s ≤ σ.2.1 k) (hn : 135 ≤ n) (hd : 9 ≤ d) (h1 : 28 ≤ bc) (h2 : 200 ≤ bs) : SM SR0 MX3_textBehind d bc bs [.ref (102 + 2 * k), .int (nI s)] h n (TXo h n 47) := by
  have hc := (hR.sh hk).2.2.1
  refine sm_of pn_Overwalks rfl (Nat.le_of_ble_eq_true rfl) ?_
  refine sw_new (ci := 1) (pc' := 3) rfl dX3_textBehind_0 (by decide +kernel) w_681 w_682 w_54 (by omega) (Nat.le_trans (Nat.le_of_ble_eq_true rfl) (show 4 ≤ _ by omega)) ?_
  refine sw_nm (fun g1 eg1 => ?_)
  have zg1 := (congrFun eg1 n).trans (up_s (h := h) (i := n))
  refine sw_dup (pc' := 4) rfl dX3_textBehind_3 rfl ?_
  have f1 : FN 1 = 4 := rfl
  refine sw_I (M' := MJ4_init_da8c8) (d' := d - 1) (bc' := 1) (bs' := 16) (as := []) dX3_textBehind_4 w_683 ok_J4_init_da8c8 (j_initSB (n0 := n) zg1 (Nat.le_refl _) (Nat.lt_succ_self _) (by omega) (Nat.le_refl _) (Nat.le_refl _) (by omega)) (by omega) (Nat.le_of_ble_eq_true rfl) (by omega) (by omega) (fun E h' n' _ z => sbo_x z) (sbo_k (fun p pn pk pS pF => ?_))
  refine sw_astore_n (pc' := 8) (lv' := [(2, _), (0, _), (1, _)]) rfl dX3_textBehind_7 (by decide +kernel) rfl ?_
  refine sw_iload_n (pc' := 9) rfl dX3_textBehind_8 rfl ?_
  refine sw_istore_n (pc' := 10) (lv' := [(3, _), (2, _), (0, _), (1, _)]) rfl dX3_textBehind_9 (by decide +kernel) rfl ?_
  exact l_textBehind hR hT hI hk hn hd (σ.2.1 k - s) s _ _ pn 0 16 p (by omega) (Nat.le_refl _) (by omega) pS (by omega) (by omega) (fun j hj => (pF j (Or.inl hj)).trans ((congrFun eg1 j).trans (up_n (by omega)))) (by omega) (by omega)
theorem m_text {h : AH} {d bc bs n N : Nat} {σ : CS} {a : Int32} (hR : RC h σ) (hT : TXT h) (hV : IV σ N) (hN : N < 2 ^ 31) (hn : 135 ≤ n) (hd : 10 ≤ d) (h1 : 60 ≤ bc) (h2 : 400 ≤ bs) : SM SR0 MX3_text d bc bs [.ref 100, .int a] h n (CTo h n (opText σ a)) := by
  have hI : thI σ := (hV.iv hN).2.2.1
  refine sm_of pn_Overwalks rfl (Nat.le_of_ble_eq_true rfl) ?_
  rcases idxN 11 (by decide +kernel) a with q | ⟨k, hk, rfl⟩
  · refine sw_aload_n (pc' := 1) rfl dX3_text_0 rfl ?_
    refine sw_iload_n (pc' := 2) rfl dX3_text_1 rfl ?_
    refine sw_V (M' := MX3_shelfAt) (d' := d - 1) (bc' := 1) (bs' := 6) (ci := 4) (as := [_]) dX3_text_2 w_402 ok_X3_shelfAt (m_shelfAt_x hR (Nat.le_refl _) (Nat.le_refl _) q) hR.1 rfl (by omega) (Nat.le_of_ble_eq_true rfl) (by omega) (by omega) (dx_x (swx_out rfl ?_)) (fun v h' n' _ z => dx_k z)
    rw [opText, onSh_x q]
    exact ⟨Nat.le_refl _, rfl, hR, FrC.rf⟩
  · refine sw_aload_n (pc' := 1) rfl dX3_text_0 rfl ?_
    refine sw_iload_n (pc' := 2) rfl dX3_text_1 rfl ?_
    refine sw_V (M' := MX3_shelfAt) (d' := d - 1) (bc' := 1) (bs' := 6) (ci := 4) (as := [_]) dX3_text_2 w_402 ok_X3_shelfAt (m_shelfAt_k hR (Nat.le_refl _) (Nat.le_refl _) hk) hR.1 rfl (by omega) (Nat.le_of_ble_eq_true rfl) (by omega) (by omega) (fun E h' n' _ z => det_x z) (det_k ?_)
    refine sw_iconst (pc' := 6) (v := 0) rfl dX3_text_5 (by decide +kernel) ?_
    refine sw_S (M' := MX3_textBehind) (d' := d - 1) (bc' := 28) (bs' := 200) (as := [_, _]) dX3_text_6 w_678 ok_X3_textBehind (m_textBehind (s := 0) hR hT hI hk (Nat.zero_le _) hn (by omega) (Nat.le_refl _) (Nat.le_refl _)) (by omega) (Nat.le_of_ble_eq_true rfl) (by omega) (by omega) (fun E h' n' _ z => txo_x z) (txo_k (fun p pn t L pk pL pS pF => ?_))
    refine sw_ret (v := some _) ⟨dX3_text_9, _, rfl, Or.inl ⟨_, rfl⟩⟩ ?_
    rw [opText, onSh_k hk]
    exact ⟨pk, ⟨t, rfl⟩, hR.frT (fun i hi => pF i (by omega)), fun i _ hi => pF i hi⟩
theorem m_list {h : AH} {d bc bs n N : Nat} {σ : CS} {a : Int32} (hR : RC h σ) (hT : TXT h) (hV : IV σ N) (hN : N < 2 ^ 31) (hn : 135 ≤ n) (hd : 10 ≤ d) (h1 : 60 ≤ bc) (h2 : 400 ≤ bs) : SM SR0 MX3_list d bc bs [.ref 100, .int a] h n (CTo h n (opText σ a)) := by
  have hI : thI σ := (hV.iv hN).2.2.1
  refine sm_of pn_Overwalks rfl (Nat.le_of_ble_eq_true rfl) ?_
  rcases idxN 11 (by decide +kernel) a with q | ⟨k, hk, rfl⟩
  · refine sw_aload_n (pc' := 1) rfl dX3_list_0 rfl ?_
    refine sw_iload_n (pc' := 2) rfl dX3_list_1 rfl ?_
    refine sw_V (M' := MX3_shelfAt) (d' := d - 1) (bc' := 1) (bs' := 6) (ci := 4) (as := [_]) dX3_list_2 w_402 ok_X3_shelfAt (m_shelfAt_x hR (Nat.le_refl _) (Nat.le_refl _) q) hR.1 rfl (by omega) (Nat.le_of_ble_eq_true rfl) (by omega) (by omega) (dx_x (swx_out rfl ?_)) (fun v h' n' _ z => dx_k z)
    rw [opText, onSh_x q]
    exact ⟨Nat.le_refl _, rfl, hR, FrC.rf⟩
  · refine sw_aload_n (pc' := 1) rfl dX3_list_0 rfl ?_
    refine sw_iload_n (pc' := 2) rfl dX3_list_1 rfl ?_
    refine sw_V (M' := MX3_shelfAt) (d' := d - 1) (bc' := 1) (bs' := 6) (ci := 4) (as := [_]) dX3_list_2 w_402 ok_X3_shelfAt (m_shelfAt_k hR (Nat.le_refl _) (Nat.le_refl _) hk) hR.1 rfl (by omega) (Nat.le_of_ble_eq_true rfl) (by omega) (by omega) (fun E h' n' _ z => det_x z) (det_k ?_)
    refine sw_iconst (pc' := 6) (v := 0) rfl dX3_list_5 (by decide +kernel) ?_
    refine sw_S (M' := MX3_textBehind) (d' := d - 1) (bc' := 28) (bs' := 200) (as := [_, _]) dX3_list_6 w_678 ok_X3_textBehind (m_textBehind (s := 0) hR hT hI hk (Nat.zero_le _) hn (by omega) (Nat.le_refl _) (Nat.le_refl _)) (by omega) (Nat.le_of_ble_eq_true rfl) (by omega) (by omega) (fun E h' n' _ z => txo_x z) (txo_k (fun p pn t L pk pL pS pF => ?_))
    refine sw_ret (v := some _) ⟨dX3_list_9, _, rfl, Or.inl ⟨_, rfl⟩⟩ ?_
    rw [opText, onSh_k hk]
    exact ⟨pk, ⟨t, rfl⟩, hR.frT (fun i hi => pF i (by omega)), fun i _ hi => pF i hi⟩
theorem m_rest {h : AH} {d bc bs n N : Nat} {σ : CS} {a : Int32} (hR : RC h σ) (hT : TXT h) (hV : IV σ N) (hN : N < 2 ^ 31) (hn : 135 ≤ n) (hd : 10 ≤ d) (h1 : 60 ≤ bc) (h2 : 400 ≤ bs) : SM SR0 MX3_rest d bc bs [.ref 100, .int a] h n (CTo h n (opRest σ a)) := by
  have hI : thI σ := (hV.iv hN).2.2.1
  refine sm_of pn_Overwalks rfl (Nat.le_of_ble_eq_true rfl) ?_
  rcases idxN 6 (by decide +kernel) a with q | ⟨k, hk, rfl⟩
  · refine sw_aload_n (pc' := 1) rfl dX3_rest_0 rfl ?_
    refine sw_iload_n (pc' := 2) rfl dX3_rest_1 rfl ?_
    refine sw_V (M' := MX3_walkAt) (d' := d - 1) (bc' := 1) (bs' := 6) (ci := 4) (as := [_]) dX3_rest_2 w_357 ok_X3_walkAt (m_walkAt_x hR (Nat.le_refl _) (Nat.le_refl _) q) hR.1 rfl (by omega) (Nat.le_of_ble_eq_true rfl) (by omega) (by omega) (dx_x (swx_out rfl ?_)) (fun v h' n' _ z => dx_k z)
    rw [opRest, onWk_x q]
    exact ⟨Nat.le_refl _, rfl, hR, FrC.rf⟩
  rcases Classical.em ((σ.2.2.2.2.1 k).1 = false) with q1 | q1
  · refine sw_aload_n (pc' := 1) rfl dX3_rest_0 rfl ?_
    refine sw_iload_n (pc' := 2) rfl dX3_rest_1 rfl ?_
    refine sw_V (M' := MX3_walkAt) (d' := d - 1) (bc' := 1) (bs' := 6) (ci := 4) (as := [_]) dX3_rest_2 w_357 ok_X3_walkAt (m_walkAt_k hR (Nat.le_refl _) (Nat.le_refl _) hk) hR.1 rfl (by omega) (Nat.le_of_ble_eq_true rfl) (by omega) (by omega) (fun E h' n' _ z => det_x z) (det_k ?_)
    refine sw_astore_n (pc' := 6) (lv' := [(2, _), (0, _), (1, _)]) rfl dX3_rest_5 (by decide +kernel) rfl ?_
    refine sw_aload_n (pc' := 7) rfl dX3_rest_6 rfl ?_
    refine sw_S (M' := MX3_requireMade) (d' := d - 1) (bc' := 1) (bs' := 6) (as := [_]) dX3_rest_7 w_640 ok_X3_requireMade (m_requireMade_x (hR.wk hk).2 (Nat.le_refl _) (Nat.le_refl _) q1) (by omega) (Nat.le_of_ble_eq_true rfl) (by omega) (by omega) (dx_x (swx_out rfl ?_)) (fun v h' n' _ z => dx_k z)
    rw [opRest, onWk_k hk, if_pos q1]
    exact ⟨Nat.le_refl _, rfl, hR, FrC.rf⟩
  refine sw_aload_n (pc' := 1) rfl dX3_rest_0 rfl ?_
  refine sw_iload_n (pc' := 2) rfl dX3_rest_1 rfl ?_
  refine sw_V (M' := MX3_walkAt) (d' := d - 1) (bc' := 1) (bs' := 6) (ci := 4) (as := [_]) dX3_rest_2 w_357 ok_X3_walkAt (m_walkAt_k hR (Nat.le_refl _) (Nat.le_refl _) hk) hR.1 rfl (by omega) (Nat.le_of_ble_eq_true rfl) (by omega) (by omega) (fun E h' n' _ z => det_x z) (det_k ?_)
  refine sw_astore_n (pc' := 6) (lv' := [(2, _), (0, _), (1, _)]) rfl dX3_rest_5 (by decide +kernel) rfl ?_
  refine sw_aload_n (pc' := 7) rfl dX3_rest_6 rfl ?_
  refine sw_S (M' := MX3_requireMade) (d' := d - 1) (bc' := 1) (bs' := 6) (as := [_]) dX3_rest_7 w_640 ok_X3_requireMade (m_requireMade_k (hR.wk hk).2 (Nat.le_refl _) (Nat.le_refl _) q1) (by omega) (Nat.le_of_ble_eq_true rfl) (by omega) (by omega) (fun E h' n' _ z => det_x z) (det_k ?_)
  refine sw_aload_n (pc' := 11) rfl dX3_rest_10 rfl ?_
  refine sw_V (M' := MX2_canGiveAll) (d' := d - 1) (bc' := 0) (bs' := 0) (ci := 3) (as := []) dX3_rest_11 w_673 ok_X2_canGiveAll (m_canGiveAll (hR.wk hk).2 (hR.sh (hR.wk hk).1) (by omega)) (hR.wk hk).2.1 rfl (by omega) (Nat.le_of_ble_eq_true rfl) (Nat.zero_le _) (Nat.zero_le _) (fun E h' n' _ z => det_x z) (det_k ?_)
  refine sw_if_ne (pc' := 17) (tgt := 25) rfl dX3_rest_14 (by decide +kernel) (fun c14 => ?_) (fun c14 => ?_)
  · refine sw_aload_n (pc' := 26) rfl dX3_rest_25 rfl ?_
    have hga : wGa σ k = true := bI_1 c14
    obtain ⟨A, eA, hA⟩ := wi_at ((hV.iv hN).2.2.2.2.2.2.2 k hk) q1 hga
    refine sw_V (M' := MX2_ahead) (d' := d - 1) (bc' := 0) (bs' := 0) (ci := 3) (as := []) dX3_rest_26 w_215 ok_X2_ahead (m_ahead (hR.wk hk).2) (hR.wk hk).2.1 rfl (by omega) (Nat.le_of_ble_eq_true rfl) (Nat.zero_le _) (Nat.zero_le _) (fun E h' n' _ z => det_x z) (det_k ?_)
    rw [show (σ.2.2.2.2.1 k).2.2.2.1 - (σ.2.2.2.2.1 k).2.2.2.2.1 = nI A from eA]
    refine sw_istore_n (pc' := 30) (lv' := [(3, _), (2, _), (0, _), (1, _)]) rfl dX3_rest_29 (by decide +kernel) rfl ?_
    refine sw_aload_n (pc' := 31) rfl dX3_rest_30 rfl ?_
    refine sw_bipush (pc' := 33) (v := 12) rfl dX3_rest_31 (by decide +kernel) ?_
    have ov2 := (hR.wk hk).1
    have ov : wO σ k < 11 := (hR.wk hk).1
    refine sw_V (M' := MX2_giveUpTo) (d' := d - 1) (bc' := 0) (bs' := 0) (ci := 3) (as := [_]) dX3_rest_33 w_221 ok_X2_giveUpTo (m_giveUpTo (m := 12) (hR.wk hk).2 (hR.sh ov) (by omega) (by omega) (by decide +kernel)) (hR.wk hk).2.1 rfl (by omega) (Nat.le_of_ble_eq_true rfl) (Nat.zero_le _) (Nat.zero_le _) (fun E h' n' _ z => wkp_x z) (wkp_k (fun p pW pF => ?_))
    have pR : RC p (gvU σ k (wGu σ k 12)) := hR.wU hk ⟨ov, pW⟩ pF
    refine sw_pop (pc' := 37) rfl dX3_rest_36 rfl ?_
    refine sw_aload_n (pc' := 38) rfl dX3_rest_37 rfl ?_
    refine sw_getf (ci := 3) (k := 1) (pc' := 41) rfl dX3_rest_38 (by decide +kernel) w_120 pW.1 rfl ?_
    refine sw_iload_n (pc' := 42) rfl dX3_rest_41 rfl ?_
    refine sw_S (M' := MX3_textBehind) (d' := d - 1) (bc' := 28) (bs' := 200) (as := [_, _]) dX3_rest_42 w_678 ok_X3_textBehind (m_textBehind (k := wO σ k) (s := A) pR (hT.fr (fun i hi => pF i (by omega))) (show thI (gvU σ k (wGu σ k 12)) from hI) ov hA hn (by omega) (Nat.le_refl _) (Nat.le_refl _)) (by omega) (Nat.le_of_ble_eq_true rfl) (by omega) (by omega) (fun E h' n' _ z => txo_x z) (txo_k (fun w wn t L wk wL wS wF => ?_))
    refine sw_ret (v := some _) ⟨dX3_rest_45, _, rfl, Or.inl ⟨_, rfl⟩⟩ ?_
    rw [opRest, onWk_k hk, if_neg q1, if_neg (by rw [hga]; decide)]
    exact ⟨wk, ⟨t, rfl⟩, pR.frT (fun i hi => wF i (by omega)), fun i h9 hi => (wF i hi).trans (pF i (by omega))⟩
  · refine sw_aload_n (pc' := 18) rfl dX3_rest_17 rfl ?_
    refine sw_V (M' := MX3_refuse) (d' := d - 1) (bc' := 0) (bs' := 0) (ci := 4) (as := []) dX3_rest_18 w_439 ok_X3_refuse (m_refuse hR) hR.1 rfl (by omega) (Nat.le_of_ble_eq_true rfl) (Nat.zero_le _) (Nat.zero_le _) (fun E h' n' _ z => cp_x z) (cp_k (fun p pR pF => ?_))
    refine sw_pop (pc' := 22) rfl dX3_rest_21 rfl ?_
    refine sw_ldcS (pc' := 24) rfl dX3_rest_22 (SRm 15 rfl) (by decide +kernel) ?_
    refine sw_ret (v := some _) ⟨dX3_rest_24, _, rfl, Or.inl ⟨_, rfl⟩⟩ ?_
    rw [opRest, onWk_k hk, if_neg q1, if_pos (show wGa σ k = false from bI_0 c14)]
    exact ⟨Nat.le_refl _, ⟨_, rfl⟩, pR, pF⟩
theorem l_zip {h0 : AH} {d n k j b N : Nat} (hT : TXT h0) (hN : N < 2 ^ 31) (hk : k < 6) (hj : j < 6) (hne : k ≠ j) (hn : 135 ≤ n) (hd : 9 ≤ d) (m : Nat) : ∀ (i bc bs pn N9 r : Nat) (p : AH) (σ : CS), i + m = 12 → RC p σ → IV σ N → (σ.2.2.2.2.1 k).1 = true → (σ.2.2.2.2.1 j).1 = true → n ≤ pn → SbF p pn n b N9 r → N9 ≤ 6 * i → r ≤ 144 → FrC h0 p n → 4 * m + 2 ≤ bc → 2 * (144 - r) + 80 ≤ bs → SW SR0 MX3_zip d bc bs 72 [(6, .int (nI i)), (5, .ref b), (4, .ref (125 + j)), (3, .ref (125 + k)), (0, .ref 100), (1, .int (nI k)), (2, .int (nI j))] [] p pn (CTo h0 n (ivN, zpU σ k j m)) := by
  induction m with
  | zero =>
    intro i bc bs pn N9 r p σ hi pR hV hmk hmj hnp hS hNi hr hG h1 h2
    refine sw_iload (pc' := 74) rfl dX3_zip_72 rfl ?_
    refine sw_bipush (pc' := 76) (v := 12) rfl dX3_zip_74 (by decide +kernel) ?_
    refine sw_icmp_ge (pc' := 79) (tgt := 134) rfl dX3_zip_76 (by decide +kernel) (fun c76 => ?_) (fun c76 => ?_)
    · refine sw_aload (pc' := 136) rfl dX3_zip_134 rfl ?_
      obtain ⟨a0, f0, fl0, hS0, -⟩ := id hS
      refine sw_V (M' := MJ4_toString_0e30d) (d' := d - 1) (bc' := 2) (bs' := (N9 + 4)) (ci := 1) (as := []) dX3_zip_136 w_847 ok_J4_toString_0e30d (j_toString hS (by omega) (by omega) (Nat.le_refl _) (Nat.le_refl _) (by omega)) hS0 rfl (by omega) (Nat.le_of_ble_eq_true rfl) (by omega) (by omega) (fun E h' n' _ z => spo_x z) (spo_k (fun q qn t qk qS qF => ?_))
      refine sw_ret (v := some _) ⟨dX3_zip_139, _, rfl, Or.inl ⟨_, rfl⟩⟩ ?_
      exact (show CTo h0 n (ivN, σ) _ _ _ from ⟨by omega, ⟨t, rfl⟩, pR.frT (fun i hi => qF i (by omega)), fun i a hi => (qF i (by omega)).trans (hG i a hi)⟩)
    · exact absurd ((nI_leI (a := 12) (b := i) (by decide +kernel) (by omega)).mpr (by omega)) c76
  | succ m ih =>
    intro i bc bs pn N9 r p σ hi pR hV hmk hmj hnp hS hNi hr hG h1 h2
    refine sw_iload (pc' := 74) rfl dX3_zip_72 rfl ?_
    refine sw_bipush (pc' := 76) (v := 12) rfl dX3_zip_74 (by decide +kernel) ?_
    refine sw_icmp_ge (pc' := 79) (tgt := 134) rfl dX3_zip_76 (by decide +kernel) (fun c76 => ?_) (fun c76 => ?_)
    · exact absurd c76 (nI_ge (b := 12) (by omega) (by decide +kernel))
    · refine sw_aload_n (pc' := 80) rfl dX3_zip_79 rfl ?_
      refine sw_V (M' := MX2_hasMore) (d' := d - 1) (bc' := 0) (bs' := 0) (ci := 3) (as := []) dX3_zip_80 w_188 ok_X2_hasMore (m_hasMore (pR.wk hk).2 (pR.sh (pR.wk hk).1) (by omega)) (pR.wk hk).2.1 rfl (by omega) (Nat.le_of_ble_eq_true rfl) (Nat.zero_le _) (Nat.zero_le _) (fun E h' n' _ z => det_x z) (det_k ?_)
      refine sw_if_eq (pc' := 86) (tgt := 134) rfl dX3_zip_83 (by decide +kernel) (fun c83 => ?_) (fun c83 => ?_)
      · refine sw_aload (pc' := 136) rfl dX3_zip_134 rfl ?_
        obtain ⟨a0, f0, fl0, hS0, -⟩ := id hS
        refine sw_V (M' := MJ4_toString_0e30d) (d' := d - 1) (bc' := 2) (bs' := (N9 + 4)) (ci := 1) (as := []) dX3_zip_136 w_847 ok_J4_toString_0e30d (j_toString hS (by omega) (by omega) (Nat.le_refl _) (Nat.le_refl _) (by omega)) hS0 rfl (by omega) (Nat.le_of_ble_eq_true rfl) (by omega) (by omega) (fun E h' n' _ z => spo_x z) (spo_k (fun q qn t qk qS qF => ?_))
        refine sw_ret (v := some _) ⟨dX3_zip_139, _, rfl, Or.inl ⟨_, rfl⟩⟩ ?_
        have e9 : zpU σ k j (m + 1) = σ := if_neg (fun g => Bool.noConfusion ((show wHM σ k = false from bI_0 c83).symm.trans g.1))
        rw [e9]
        exact (show CTo h0 n (ivN, σ) _ _ _ from ⟨by omega, ⟨t, rfl⟩, pR.frT (fun i hi => qF i (by omega)), fun i a hi => (qF i (by omega)).trans (hG i a hi)⟩)
      · refine sw_aload (pc' := 88) rfl dX3_zip_86 rfl ?_
        refine sw_V (M' := MX2_hasMore) (d' := d - 1) (bc' := 0) (bs' := 0) (ci := 3) (as := []) dX3_zip_88 w_188 ok_X2_hasMore (m_hasMore (pR.wk hj).2 (pR.sh (pR.wk hj).1) (by omega)) (pR.wk hj).2.1 rfl (by omega) (Nat.le_of_ble_eq_true rfl) (Nat.zero_le _) (Nat.zero_le _) (fun E h' n' _ z => det_x z) (det_k ?_)
        refine sw_if_eq (pc' := 94) (tgt := 134) rfl dX3_zip_91 (by decide +kernel) (fun c91 => ?_) (fun c91 => ?_)
        · refine sw_aload (pc' := 136) rfl dX3_zip_134 rfl ?_
          obtain ⟨a0, f0, fl0, hS0, -⟩ := id hS
          refine sw_V (M' := MJ4_toString_0e30d) (d' := d - 1) (bc' := 2) (bs' := (N9 + 4)) (ci := 1) (as := []) dX3_zip_136 w_847 ok_J4_toString_0e30d (j_toString hS (by omega) (by omega) (Nat.le_refl _) (Nat.le_refl _) (by omega)) hS0 rfl (by omega) (Nat.le_of_ble_eq_true rfl) (by omega) (by omega) (fun E h' n' _ z => spo_x z) (spo_k (fun q qn t qk qS qF => ?_))
          refine sw_ret (v := some _) ⟨dX3_zip_139, _, rfl, Or.inl ⟨_, rfl⟩⟩ ?_
          have e9 : zpU σ k j (m + 1) = σ := if_neg (fun g => Bool.noConfusion ((show wHM σ j = false from bI_0 c91).symm.trans g.2))
          rw [e9]
          exact (show CTo h0 n (ivN, σ) _ _ _ from ⟨by omega, ⟨t, rfl⟩, pR.frT (fun i hi => qF i (by omega)), fun i a hi => (qF i (by omega)).trans (hG i a hi)⟩)
        · refine sw_aload (pc' := 96) rfl dX3_zip_94 rfl ?_
          refine sw_iload (pc' := 98) rfl dX3_zip_96 rfl ?_
          have g1 : wHM σ k = true := bI_1 c83
          have g2 : wHM σ j = true := bI_1 c91
          obtain ⟨x, hx, ex⟩ := hm_th hV hN hk hmk g1
          have V1 : IV (gvU σ k 1) N := iv_g1 hV hk g1
          have g3 : wHM (gvU σ k 1) j = true := (gv_hm (Ne.symm hne)).trans g2
          have hm1 : ((gvU σ k 1).2.2.2.2.1 j).1 = true := by rw [gv_wk (Ne.symm hne)]; exact hmj
          obtain ⟨y, hy, ey⟩ := hm_th V1 hN hj hm1 g3
          have V2 : IV (gvU (gvU σ k 1) j 1) N := iv_g1 V1 hj g3
          obtain ⟨q1, hq1⟩ : ∃ q1, q1 = if 0 < nI i then N9 + 1 else N9 := ⟨_, rfl⟩
          have hb1 : N9 ≤ q1 ∧ q1 ≤ N9 + 1 := by rw [hq1]; split <;> omega
          obtain ⟨o1, o2, o3, o4⟩ := pot (m := r) (q := q1) (K := 144) (by omega) (by omega)
          refine sw_S (M' := MX3_appendBlankBehindFirst) (d' := d - 1) (bc' := 1) (bs' := (grC r q1)) (as := [_, _]) dX3_zip_98 w_712 ok_X3_appendBlankBehindFirst (m_appendBlank hS (by omega) (by omega) hq1 (by omega) (by omega) (Nat.le_refl _) (Nat.le_refl _)) (by omega) (Nat.le_of_ble_eq_true rfl) (by omega) (by omega) (fun E h' n' _ z => sbo_x z) (sbo_k (fun q qn qk qS qF => ?_))
          have qR : RC q σ := pR.frT (fun j hj => qF j (by omega))
          have qG : FrC h0 q n := fun i a hi => (qF i (Or.inl hi)).trans (hG i a hi)
          refine sw_aload (pc' := 103) rfl dX3_zip_101 rfl ?_
          refine sw_aload_n (pc' := 104) rfl dX3_zip_103 rfl ?_
          refine sw_V (M' := MX2_give) (d' := d - 1) (bc' := 0) (bs' := 0) (ci := 3) (as := []) dX3_zip_104 w_200 ok_X2_give (m_give (qR.wk hk).2 (qR.sh (qR.wk hk).1) (by have := (qR.wk hk).1; omega) (by omega)) (qR.wk hk).2.1 rfl (by omega) (Nat.le_of_ble_eq_true rfl) (Nat.zero_le _) (Nat.zero_le _) (fun E h' n' _ z => wkp_x z) (wkp_k (fun u uW uF => ?_))
          have uR : RC u (gvU σ k 1) := qR.wU hk ⟨(qR.wk hk).1, uW⟩ uF
          have uG : FrC h0 u n := fun i a hi => (uF i (by omega)).trans (qG i a hi)
          have uS := qS.frW (h' := u) (fun i a _ => uF i (by omega)) (Nat.le_refl _)
          rw [show taI (σ.1 (σ.2.2.2.2.1 k).2.1) (σ.2.1 (σ.2.2.2.2.1 k).2.1) ((σ.2.2.2.2.1 k).2.2.2.1 - (σ.2.2.2.2.1 k).2.2.2.2.1) = nI x from ex]
          obtain ⟨q2, hq2⟩ : ∃ q2, q2 = q1 + (if x = 100 then 1 else dgt x) := ⟨_, rfl⟩
          have tl := tl_le (k := x)
          obtain ⟨u1, u2, u3, u4⟩ := pot (m := capN r q1) (q := q2) (K := 144) (by omega) (by omega)
          refine sw_S (M' := MX3_appendThing) (d' := d - 1) (bc' := 1) (bs' := (grC (capN r q1) q2)) (as := [_, _]) dX3_zip_107 w_810 ok_X3_appendThing (m_appendThing uS (by omega) (by omega) (hT.fr (fun j hj => uG j (by omega) (by omega))) hx hq2 (by omega) (by omega) (Nat.le_refl _) (Nat.le_refl _)) (by omega) (Nat.le_of_ble_eq_true rfl) (by omega) (by omega) (fun E h' n' _ z => sbo_x z) (sbo_k (fun v vn vk vS vF => ?_))
          have vR : RC v (gvU σ k 1) := uR.frT (fun j hj => vF j (by omega))
          have vG : FrC h0 v n := fun i a hi => (vF i (Or.inl hi)).trans (uG i a hi)
          refine sw_aload (pc' := 112) rfl dX3_zip_110 rfl ?_
          refine sw_bipush (pc' := 114) (v := 47) rfl dX3_zip_112 (by decide +kernel) ?_
          obtain ⟨a0, f0, fl0, hS0, -⟩ := id vS
          obtain ⟨w1, w2, w3, w4⟩ := pot (m := capN (capN r q1) q2) (q := q2 + 1) (K := 144) (by omega) (by omega)
          refine sw_V (M' := MJ4_append_cf468) (d' := d - 1) (bc' := 1) (bs' := (grC (capN (capN r q1) q2) (q2 + 1))) (ci := 1) (as := [_]) dX3_zip_114 w_715 ok_J4_append_cf468 (j_appendC vS (Nat.le_refl _) (by omega) (by omega) (by decide +kernel) (by omega) (by omega) (Nat.le_refl _) (Nat.le_refl _)) hS0 rfl (by omega) (Nat.le_of_ble_eq_true rfl) (by omega) (by omega) (fun E h' n' _ z => sbo_x z) (sbo_k (fun w wn wk wS wF => ?_))
          have wR : RC w (gvU σ k 1) := vR.frT (fun j hj => wF j (by omega))
          have wG : FrC h0 w n := fun i a hi => (wF i (Or.inl hi)).trans (vG i a hi)
          refine sw_pop (pc' := 118) rfl dX3_zip_117 rfl ?_
          refine sw_aload (pc' := 120) rfl dX3_zip_118 rfl ?_
          refine sw_aload (pc' := 122) rfl dX3_zip_120 rfl ?_
          refine sw_V (M' := MX2_give) (d' := d - 1) (bc' := 0) (bs' := 0) (ci := 3) (as := []) dX3_zip_122 w_200 ok_X2_give (m_give (wR.wk hj).2 (wR.sh (wR.wk hj).1) (by have := (wR.wk hj).1; omega) (by omega)) (wR.wk hj).2.1 rfl (by omega) (Nat.le_of_ble_eq_true rfl) (Nat.zero_le _) (Nat.zero_le _) (fun E h' n' _ z => wkp_x z) (wkp_k (fun y1 yW yF => ?_))
          have yR : RC y1 (gvU (gvU σ k 1) j 1) := wR.wU hj ⟨(wR.wk hj).1, yW⟩ yF
          have yG : FrC h0 y1 n := fun i a hi => (yF i (by omega)).trans (wG i a hi)
          have yS := wS.frW (h' := y1) (fun i a _ => yF i (by omega)) (Nat.le_refl _)
          rw [show taI ((gvU σ k 1).1 ((gvU σ k 1).2.2.2.2.1 j).2.1) ((gvU σ k 1).2.1 ((gvU σ k 1).2.2.2.2.1 j).2.1) (((gvU σ k 1).2.2.2.2.1 j).2.2.2.1 - ((gvU σ k 1).2.2.2.2.1 j).2.2.2.2.1) = nI y from ey]
          obtain ⟨q4, hq4⟩ : ∃ q4, q4 = q2 + 1 + (if y = 100 then 1 else dgt y) := ⟨_, rfl⟩
          have tm := tl_le (k := y)
          obtain ⟨z1, z2, z3, z4⟩ := pot (m := capN (capN (capN r q1) q2) (q2 + 1)) (q := q4) (K := 144) (by omega) (by omega)
          refine sw_S (M' := MX3_appendThing) (d' := d - 1) (bc' := 1) (bs' := (grC (capN (capN (capN r q1) q2) (q2 + 1)) q4)) (as := [_, _]) dX3_zip_125 w_810 ok_X3_appendThing (m_appendThing yS (by omega) (by omega) (hT.fr (fun j hj => yG j (by omega) (by omega))) hy hq4 (by omega) (by omega) (Nat.le_refl _) (Nat.le_refl _)) (by omega) (Nat.le_of_ble_eq_true rfl) (by omega) (by omega) (fun E h' n' _ z => sbo_x z) (sbo_k (fun e en ek eS eF => ?_))
          have eR : RC e (gvU (gvU σ k 1) j 1) := yR.frT (fun j hj => eF j (by omega))
          have eG : FrC h0 e n := fun i a hi => (eF i (Or.inl hi)).trans (yG i a hi)
          refine sw_iinc (pc' := 131) (lv' := [(6, _), (5, _), (4, _), (3, _), (0, _), (1, _), (2, _)]) (v := nI (i + 1)) rfl dX3_zip_128 rfl (nI_1 i) (by decide +kernel) rfl ?_
          refine sw_goto (tgt := 72) dX3_zip_131 (by decide +kernel) ?_
          have e9 : zpU σ k j (m + 1) = zpU (gvU (gvU σ k 1) j 1) k j m := if_pos ⟨g1, g2⟩
          rw [e9]
          exact ih (i + 1) _ _ en q4 _ e _ (by omega) eR V2 (by rw [gv_wk hne, gv_mk]; exact hmk) (by rw [gv_mk]; exact hm1) (by omega) eS (by omega) z2 eG (by omega) (by omega)
theorem m_zip {h : AH} {d bc bs n N : Nat} {σ : CS} {a a2 : Int32} (hR : RC h σ) (hT : TXT h) (hV : IV σ N) (hN : N < 2 ^ 31) (hn : 135 ≤ n) (hd : 10 ≤ d) (h1 : 60 ≤ bc) (h2 : 400 ≤ bs) : SM SR0 MX3_zip d bc bs [.ref 100, .int a, .int a2] h n (CTo h n (opZip σ a a2)) := by
  refine sm_of pn_Overwalks rfl (Nat.le_of_ble_eq_true rfl) ?_
  rcases idxN 6 (by decide +kernel) a with q | ⟨k, hk, rfl⟩
  · refine sw_aload_n (pc' := 1) rfl dX3_zip_0 rfl ?_
    refine sw_iload_n (pc' := 2) rfl dX3_zip_1 rfl ?_
    refine sw_V (M' := MX3_walkAt) (d' := d - 1) (bc' := 1) (bs' := 6) (ci := 4) (as := [_]) dX3_zip_2 w_357 ok_X3_walkAt (m_walkAt_x hR (Nat.le_refl _) (Nat.le_refl _) q) hR.1 rfl (by omega) (Nat.le_of_ble_eq_true rfl) (by omega) (by omega) (dx_x (swx_out rfl ?_)) (fun v h' n' _ z => dx_k z)
    rw [opZip, onWk_x q]
    exact ⟨Nat.le_refl _, rfl, hR, FrC.rf⟩
  rcases idxN 6 (by decide +kernel) a2 with q | ⟨j, hj, rfl⟩
  · refine sw_aload_n (pc' := 1) rfl dX3_zip_0 rfl ?_
    refine sw_iload_n (pc' := 2) rfl dX3_zip_1 rfl ?_
    refine sw_V (M' := MX3_walkAt) (d' := d - 1) (bc' := 1) (bs' := 6) (ci := 4) (as := [_]) dX3_zip_2 w_357 ok_X3_walkAt (m_walkAt_k hR (Nat.le_refl _) (Nat.le_refl _) hk) hR.1 rfl (by omega) (Nat.le_of_ble_eq_true rfl) (by omega) (by omega) (fun E h' n' _ z => det_x z) (det_k ?_)
    refine sw_astore_n (pc' := 6) (lv' := [(3, _), (0, _), (1, _), (2, _)]) rfl dX3_zip_5 (by decide +kernel) rfl ?_
    refine sw_aload_n (pc' := 7) rfl dX3_zip_6 rfl ?_
    refine sw_iload_n (pc' := 8) rfl dX3_zip_7 rfl ?_
    refine sw_V (M' := MX3_walkAt) (d' := d - 1) (bc' := 1) (bs' := 6) (ci := 4) (as := [_]) dX3_zip_8 w_357 ok_X3_walkAt (m_walkAt_x hR (Nat.le_refl _) (Nat.le_refl _) q) hR.1 rfl (by omega) (Nat.le_of_ble_eq_true rfl) (by omega) (by omega) (dx_x (swx_out rfl ?_)) (fun v h' n' _ z => dx_k z)
    rw [opZip, onWk_k hk, onWk_x q]
    exact ⟨Nat.le_refl _, rfl, hR, FrC.rf⟩
  rcases Classical.em (nI k = nI j) with qe | qe
  · refine sw_aload_n (pc' := 1) rfl dX3_zip_0 rfl ?_
    refine sw_iload_n (pc' := 2) rfl dX3_zip_1 rfl ?_
    refine sw_V (M' := MX3_walkAt) (d' := d - 1) (bc' := 1) (bs' := 6) (ci := 4) (as := [_]) dX3_zip_2 w_357 ok_X3_walkAt (m_walkAt_k hR (Nat.le_refl _) (Nat.le_refl _) hk) hR.1 rfl (by omega) (Nat.le_of_ble_eq_true rfl) (by omega) (by omega) (fun E h' n' _ z => det_x z) (det_k ?_)
    refine sw_astore_n (pc' := 6) (lv' := [(3, _), (0, _), (1, _), (2, _)]) rfl dX3_zip_5 (by decide +kernel) rfl ?_
    refine sw_aload_n (pc' := 7) rfl dX3_zip_6 rfl ?_
    refine sw_iload_n (pc' := 8) rfl dX3_zip_7 rfl ?_
    refine sw_V (M' := MX3_walkAt) (d' := d - 1) (bc' := 1) (bs' := 6) (ci := 4) (as := [_]) dX3_zip_8 w_357 ok_X3_walkAt (m_walkAt_k hR (Nat.le_refl _) (Nat.le_refl _) hj) hR.1 rfl (by omega) (Nat.le_of_ble_eq_true rfl) (by omega) (by omega) (fun E h' n' _ z => det_x z) (det_k ?_)
    refine sw_astore (pc' := 13) (lv' := [(4, _), (3, _), (0, _), (1, _), (2, _)]) rfl dX3_zip_11 (by decide +kernel) rfl ?_
    refine sw_iload_n (pc' := 14) rfl dX3_zip_13 rfl ?_
    refine sw_iload_n (pc' := 15) rfl dX3_zip_14 rfl ?_
    refine sw_icmp_ne (pc' := 18) (tgt := 28) rfl dX3_zip_15 (by decide +kernel) (fun c15 => ?_) (fun c15 => ?_)
    · exact absurd qe c15
    · refine sw_throw (names := ["java/lang/RuntimeException", "java/lang/Exception"]) rfl dX3_zip_18 dX3_zip_21 dX3_zip_22 dX3_zip_24 dX3_zip_27 (by decide +kernel) (by decide +kernel) (by decide +kernel) w_285 w_50 (SRm 18 rfl) th_Overwalks_154 (by omega) (by omega) ?_
      rw [opZip, onWk_k hk, onWk_k hj, if_pos qe]
      exact ⟨Nat.le_refl _, rfl, hR, FrC.rf⟩
  rcases Classical.em ((σ.2.2.2.2.1 k).1 = false) with qk | qk
  · refine sw_aload_n (pc' := 1) rfl dX3_zip_0 rfl ?_
    refine sw_iload_n (pc' := 2) rfl dX3_zip_1 rfl ?_
    refine sw_V (M' := MX3_walkAt) (d' := d - 1) (bc' := 1) (bs' := 6) (ci := 4) (as := [_]) dX3_zip_2 w_357 ok_X3_walkAt (m_walkAt_k hR (Nat.le_refl _) (Nat.le_refl _) hk) hR.1 rfl (by omega) (Nat.le_of_ble_eq_true rfl) (by omega) (by omega) (fun E h' n' _ z => det_x z) (det_k ?_)
    refine sw_astore_n (pc' := 6) (lv' := [(3, _), (0, _), (1, _), (2, _)]) rfl dX3_zip_5 (by decide +kernel) rfl ?_
    refine sw_aload_n (pc' := 7) rfl dX3_zip_6 rfl ?_
    refine sw_iload_n (pc' := 8) rfl dX3_zip_7 rfl ?_
    refine sw_V (M' := MX3_walkAt) (d' := d - 1) (bc' := 1) (bs' := 6) (ci := 4) (as := [_]) dX3_zip_8 w_357 ok_X3_walkAt (m_walkAt_k hR (Nat.le_refl _) (Nat.le_refl _) hj) hR.1 rfl (by omega) (Nat.le_of_ble_eq_true rfl) (by omega) (by omega) (fun E h' n' _ z => det_x z) (det_k ?_)
    refine sw_astore (pc' := 13) (lv' := [(4, _), (3, _), (0, _), (1, _), (2, _)]) rfl dX3_zip_11 (by decide +kernel) rfl ?_
    refine sw_iload_n (pc' := 14) rfl dX3_zip_13 rfl ?_
    refine sw_iload_n (pc' := 15) rfl dX3_zip_14 rfl ?_
    refine sw_icmp_ne (pc' := 18) (tgt := 28) rfl dX3_zip_15 (by decide +kernel) (fun c15 => ?_) (fun c15 => ?_)
    · refine sw_aload_n (pc' := 29) rfl dX3_zip_28 rfl ?_
      refine sw_S (M' := MX3_requireMade) (d' := d - 1) (bc' := 1) (bs' := 6) (as := [_]) dX3_zip_29 w_640 ok_X3_requireMade (m_requireMade_x (hR.wk hk).2 (Nat.le_refl _) (Nat.le_refl _) qk) (by omega) (Nat.le_of_ble_eq_true rfl) (by omega) (by omega) (dx_x (swx_out rfl ?_)) (fun v h' n' _ z => dx_k z)
      rw [opZip, onWk_k hk, onWk_k hj, if_neg qe, if_pos qk]
      exact ⟨Nat.le_refl _, rfl, hR, FrC.rf⟩
    · exact absurd c15 qe
  rcases Classical.em ((σ.2.2.2.2.1 j).1 = false) with qj | qj
  · refine sw_aload_n (pc' := 1) rfl dX3_zip_0 rfl ?_
    refine sw_iload_n (pc' := 2) rfl dX3_zip_1 rfl ?_
    refine sw_V (M' := MX3_walkAt) (d' := d - 1) (bc' := 1) (bs' := 6) (ci := 4) (as := [_]) dX3_zip_2 w_357 ok_X3_walkAt (m_walkAt_k hR (Nat.le_refl _) (Nat.le_refl _) hk) hR.1 rfl (by omega) (Nat.le_of_ble_eq_true rfl) (by omega) (by omega) (fun E h' n' _ z => det_x z) (det_k ?_)
    refine sw_astore_n (pc' := 6) (lv' := [(3, _), (0, _), (1, _), (2, _)]) rfl dX3_zip_5 (by decide +kernel) rfl ?_
    refine sw_aload_n (pc' := 7) rfl dX3_zip_6 rfl ?_
    refine sw_iload_n (pc' := 8) rfl dX3_zip_7 rfl ?_
    refine sw_V (M' := MX3_walkAt) (d' := d - 1) (bc' := 1) (bs' := 6) (ci := 4) (as := [_]) dX3_zip_8 w_357 ok_X3_walkAt (m_walkAt_k hR (Nat.le_refl _) (Nat.le_refl _) hj) hR.1 rfl (by omega) (Nat.le_of_ble_eq_true rfl) (by omega) (by omega) (fun E h' n' _ z => det_x z) (det_k ?_)
    refine sw_astore (pc' := 13) (lv' := [(4, _), (3, _), (0, _), (1, _), (2, _)]) rfl dX3_zip_11 (by decide +kernel) rfl ?_
    refine sw_iload_n (pc' := 14) rfl dX3_zip_13 rfl ?_
    refine sw_iload_n (pc' := 15) rfl dX3_zip_14 rfl ?_
    refine sw_icmp_ne (pc' := 18) (tgt := 28) rfl dX3_zip_15 (by decide +kernel) (fun c15 => ?_) (fun c15 => ?_)
    · refine sw_aload_n (pc' := 29) rfl dX3_zip_28 rfl ?_
      refine sw_S (M' := MX3_requireMade) (d' := d - 1) (bc' := 1) (bs' := 6) (as := [_]) dX3_zip_29 w_640 ok_X3_requireMade (m_requireMade_k (hR.wk hk).2 (Nat.le_refl _) (Nat.le_refl _) qk) (by omega) (Nat.le_of_ble_eq_true rfl) (by omega) (by omega) (fun E h' n' _ z => det_x z) (det_k ?_)
      refine sw_aload (pc' := 34) rfl dX3_zip_32 rfl ?_
      refine sw_S (M' := MX3_requireMade) (d' := d - 1) (bc' := 1) (bs' := 6) (as := [_]) dX3_zip_34 w_640 ok_X3_requireMade (m_requireMade_x (hR.wk hj).2 (Nat.le_refl _) (Nat.le_refl _) qj) (by omega) (Nat.le_of_ble_eq_true rfl) (by omega) (by omega) (dx_x (swx_out rfl ?_)) (fun v h' n' _ z => dx_k z)
      rw [opZip, onWk_k hk, onWk_k hj, if_neg qe, if_neg qk, if_pos qj]
      exact ⟨Nat.le_refl _, rfl, hR, FrC.rf⟩
    · exact absurd c15 qe
  refine sw_aload_n (pc' := 1) rfl dX3_zip_0 rfl ?_
  refine sw_iload_n (pc' := 2) rfl dX3_zip_1 rfl ?_
  refine sw_V (M' := MX3_walkAt) (d' := d - 1) (bc' := 1) (bs' := 6) (ci := 4) (as := [_]) dX3_zip_2 w_357 ok_X3_walkAt (m_walkAt_k hR (Nat.le_refl _) (Nat.le_refl _) hk) hR.1 rfl (by omega) (Nat.le_of_ble_eq_true rfl) (by omega) (by omega) (fun E h' n' _ z => det_x z) (det_k ?_)
  refine sw_astore_n (pc' := 6) (lv' := [(3, _), (0, _), (1, _), (2, _)]) rfl dX3_zip_5 (by decide +kernel) rfl ?_
  refine sw_aload_n (pc' := 7) rfl dX3_zip_6 rfl ?_
  refine sw_iload_n (pc' := 8) rfl dX3_zip_7 rfl ?_
  refine sw_V (M' := MX3_walkAt) (d' := d - 1) (bc' := 1) (bs' := 6) (ci := 4) (as := [_]) dX3_zip_8 w_357 ok_X3_walkAt (m_walkAt_k hR (Nat.le_refl _) (Nat.le_refl _) hj) hR.1 rfl (by omega) (Nat.le_of_ble_eq_true rfl) (by omega) (by omega) (fun E h' n' _ z => det_x z) (det_k ?_)
  refine sw_astore (pc' := 13) (lv' := [(4, _), (3, _), (0, _), (1, _), (2, _)]) rfl dX3_zip_11 (by decide +kernel) rfl ?_
  refine sw_iload_n (pc' := 14) rfl dX3_zip_13 rfl ?_
  refine sw_iload_n (pc' := 15) rfl dX3_zip_14 rfl ?_
  refine sw_icmp_ne (pc' := 18) (tgt := 28) rfl dX3_zip_15 (by decide +kernel) (fun c15 => ?_) (fun c15 => ?_)
  · refine sw_aload_n (pc' := 29) rfl dX3_zip_28 rfl ?_
    refine sw_S (M' := MX3_requireMade) (d' := d - 1) (bc' := 1) (bs' := 6) (as := [_]) dX3_zip_29 w_640 ok_X3_requireMade (m_requireMade_k (hR.wk hk).2 (Nat.le_refl _) (Nat.le_refl _) qk) (by omega) (Nat.le_of_ble_eq_true rfl) (by omega) (by omega) (fun E h' n' _ z => det_x z) (det_k ?_)
    refine sw_aload (pc' := 34) rfl dX3_zip_32 rfl ?_
    refine sw_S (M' := MX3_requireMade) (d' := d - 1) (bc' := 1) (bs' := 6) (as := [_]) dX3_zip_34 w_640 ok_X3_requireMade (m_requireMade_k (hR.wk hj).2 (Nat.le_refl _) (Nat.le_refl _) qj) (by omega) (Nat.le_of_ble_eq_true rfl) (by omega) (by omega) (fun E h' n' _ z => det_x z) (det_k ?_)
    refine sw_aload_n (pc' := 38) rfl dX3_zip_37 rfl ?_
    refine sw_V (M' := MX2_isStale) (d' := d - 1) (bc' := 0) (bs' := 0) (ci := 3) (as := []) dX3_zip_38 w_284 ok_X2_isStale (m_isStale (hR.wk hk).2 (hR.sh (hR.wk hk).1)) (hR.wk hk).2.1 rfl (by omega) (Nat.le_of_ble_eq_true rfl) (Nat.zero_le _) (Nat.zero_le _) (fun E h' n' _ z => det_x z) (det_k ?_)
    refine sw_if_ne (pc' := 44) (tgt := 52) rfl dX3_zip_41 (by decide +kernel) (fun c41 => ?_) (fun c41 => ?_)
    · refine sw_aload_n (pc' := 53) rfl dX3_zip_52 rfl ?_
      refine sw_V (M' := MX3_refuse) (d' := d - 1) (bc' := 0) (bs' := 0) (ci := 4) (as := []) dX3_zip_53 w_439 ok_X3_refuse (m_refuse hR) hR.1 rfl (by omega) (Nat.le_of_ble_eq_true rfl) (Nat.zero_le _) (Nat.zero_le _) (fun E h' n' _ z => cp_x z) (cp_k (fun p pR pF => ?_))
      refine sw_pop (pc' := 57) rfl dX3_zip_56 rfl ?_
      refine sw_ldcS (pc' := 59) rfl dX3_zip_57 (SRm 15 rfl) (by decide +kernel) ?_
      refine sw_ret (v := some _) ⟨dX3_zip_59, _, rfl, Or.inl ⟨_, rfl⟩⟩ ?_
      rw [opZip, onWk_k hk, onWk_k hj, if_neg qe, if_neg qk, if_neg qj]
      rw [if_pos (Or.inl (show wSt σ k = true from bI_1 c41))]
      exact ⟨Nat.le_refl _, ⟨_, rfl⟩, pR, pF⟩
    · refine sw_aload (pc' := 46) rfl dX3_zip_44 rfl ?_
      refine sw_V (M' := MX2_isStale) (d' := d - 1) (bc' := 0) (bs' := 0) (ci := 3) (as := []) dX3_zip_46 w_284 ok_X2_isStale (m_isStale (hR.wk hj).2 (hR.sh (hR.wk hj).1)) (hR.wk hj).2.1 rfl (by omega) (Nat.le_of_ble_eq_true rfl) (Nat.zero_le _) (Nat.zero_le _) (fun E h' n' _ z => det_x z) (det_k ?_)
      refine sw_if_eq (pc' := 52) (tgt := 60) rfl dX3_zip_49 (by decide +kernel) (fun c49 => ?_) (fun c49 => ?_)
      · refine sw_new (ci := 1) (pc' := 63) rfl dX3_zip_60 (by decide +kernel) w_681 w_682 w_54 (by omega) (Nat.le_trans (Nat.le_of_ble_eq_true rfl) (show 4 ≤ _ by omega)) ?_
        refine sw_nm (fun g1 eg1 => ?_)
        have zg1 := (congrFun eg1 n).trans (up_s (h := h) (i := n))
        refine sw_dup (pc' := 64) rfl dX3_zip_63 rfl ?_
        have f1 : FN 1 = 4 := rfl
        refine sw_I (M' := MJ4_init_da8c8) (d' := d - 1) (bc' := 1) (bs' := 16) (as := []) dX3_zip_64 w_683 ok_J4_init_da8c8 (j_initSB (n0 := n) zg1 (Nat.le_refl _) (Nat.lt_succ_self _) (by omega) (Nat.le_refl _) (Nat.le_refl _) (by omega)) (by omega) (Nat.le_of_ble_eq_true rfl) (by omega) (by omega) (fun E h' n' _ z => sbo_x z) (sbo_k (fun p pn pk pS pF => ?_))
        refine sw_astore (pc' := 69) (lv' := [(5, _), (4, _), (3, _), (0, _), (1, _), (2, _)]) rfl dX3_zip_67 (by decide +kernel) rfl ?_
        refine sw_iconst (pc' := 70) (v := 0) rfl dX3_zip_69 (by decide +kernel) ?_
        refine sw_istore (pc' := 72) (lv' := [(6, _), (5, _), (4, _), (3, _), (0, _), (1, _), (2, _)]) rfl dX3_zip_70 (by decide +kernel) rfl ?_
        rw [opZip, onWk_k hk, onWk_k hj, if_neg qe, if_neg qk, if_neg qj, if_neg (fun g => g.elim (fun g => Bool.noConfusion ((show wSt σ k = false from bI_0 c41).symm.trans g)) (fun g => Bool.noConfusion ((show wSt σ j = false from bI_0 c49).symm.trans g)))]
        have pG : ∀ i, i < n → p i = h i := fun i hi => (pF i (Or.inl hi)).trans ((congrFun eg1 i).trans (up_n (by omega)))
        exact l_zip (N := N) hT hN hk hj (fun e => qe (by rw [e])) hn (by omega) 12 0 _ _ pn 0 16 p σ rfl (hR.frT (fun i hi => pG i (by omega))) hV (mkT qk) (mkT qj) (by omega) pS (by omega) (by omega) (fun i _ hi => pG i hi) (by omega) (by omega)
      · refine sw_aload_n (pc' := 53) rfl dX3_zip_52 rfl ?_
        refine sw_V (M' := MX3_refuse) (d' := d - 1) (bc' := 0) (bs' := 0) (ci := 4) (as := []) dX3_zip_53 w_439 ok_X3_refuse (m_refuse hR) hR.1 rfl (by omega) (Nat.le_of_ble_eq_true rfl) (Nat.zero_le _) (Nat.zero_le _) (fun E h' n' _ z => cp_x z) (cp_k (fun p pR pF => ?_))
        refine sw_pop (pc' := 57) rfl dX3_zip_56 rfl ?_
        refine sw_ldcS (pc' := 59) rfl dX3_zip_57 (SRm 15 rfl) (by decide +kernel) ?_
        refine sw_ret (v := some _) ⟨dX3_zip_59, _, rfl, Or.inl ⟨_, rfl⟩⟩ ?_
        rw [opZip, onWk_k hk, onWk_k hj, if_neg qe, if_neg qk, if_neg qj]
        rw [if_pos (Or.inr (show wSt σ j = true from bI_1 c49))]
        exact ⟨Nat.le_refl _, ⟨_, rfl⟩, pR, pF⟩
  · exact absurd c15 qe
end
section
/-! 53.mtext -/
/-! the model's text calls -/
/-- the end of a text call of the model -/
def PT (h : AH) (n : Nat) (t : ARes → Int32) (q : ARes × CS) : ARes → AH → Nat → Prop := fun r' h' n' => n ≤ n' ∧ (∃ x, r' = .inl (some (.ref x))) ∧ RMo h' q.2 (t q.1) ∧ FrM h h' n
theorem pt_x {h p : AH} {n n' x : Nat} {t : ARes → Int32} {σ : CS} {E : String} {th : Int32} {ρ : Nat → Nat → Int32} {τ : Nat → Int32} (e : t (.inr E) = th) (pM : MM p ρ τ σ th) (pA : AG ρ τ σ) (pF : FrM h p n) (hn : n ≤ n') : PT h n t (.inr E, σ) (.inl (some (.ref x))) p n' := ⟨hn, ⟨x, rfl⟩, ⟨ρ, τ, e ▸ pM, pA⟩, pF⟩
theorem pt_k {h p : AH} {n n' x : Nat} {a b : String} {σ : CS} {v : Option Value} {ρ : Nat → Nat → Int32} {τ : Nat → Int32} (pM : MM p ρ τ σ 0) (pA : AG ρ τ σ) (pF : FrM h p n) (hn : n ≤ n') : PT h n (tc a b) (.inl v, σ) (.inl (some (.ref x))) p n' := ⟨hn, ⟨x, rfl⟩, ⟨ρ, τ, pM, pA⟩, pF⟩
theorem ptc_k {A : Nat → AH → Option Value → Prop} {h : AH} {n m : Nat} {t : ARes → Int32} {q : ARes × CS} (k : ∀ h' n' x, PT h n t q (.inl (some (.ref x))) h' n' → A n' h' (some (.ref x))) : ∀ (v : Option Value) (h' : AH) (n' : Nat), m ≤ n' → PT h n t q (.inl v) h' n' → A n' h' v := by
  rintro v h' n' - z
  obtain ⟨-, ⟨x, e⟩, -⟩ := id z
  cases e
  exact k h' n' x z
theorem ptc_x {A : Prop} {h : AH} {n : Nat} {t : ARes → Int32} {q : ARes × CS} {E : String} {h' : AH} {n' : Nat} (z : PT h n t q (.inr E) h' n') : A := by
  obtain ⟨-, ⟨x, e⟩, -⟩ := z
  cases e
theorem StF.c {h : AH} {n n1 n0 t L : Nat} (hS : StF h 100 t L) (hn : 100 ≤ n0) : StK h n n1 n0 t L := (hS.fr (h' := h) (fun _ _ => rfl) hn).k
theorem StN.k0 {h : AH} {n n0 m t L : Nat} (hS : StN h n m t L) : StK h n n n t L := by
  obtain ⟨v, f, r, h1, h2, h3, h4, h5, h6, h7⟩ := hS
  exact ⟨v, f, r, h1, h2, h3, Or.inl h5, Or.inl h7⟩
theorem StN.fr {h h' : AH} {n n' m t L : Nat} (hS : StN h n m t L) (hF : ∀ i, i < 100 ∨ m ≤ i → i < n → h' i = h i) (hn : n ≤ n') : StN h' n' m t L := by
  obtain ⟨v, f, r, h1, h2, h3, h4, h5, h6, h7⟩ := hS
  exact ⟨v, f, r, (hF t h4 h5).trans h1, (hF v h6 h7).trans h2, h3, h4, by omega, h6, by omega⟩
theorem StK.nm {h : AH} {n n1 n0 t L : Nat} (hS : StK h n n1 n0 t L) (h0 : n0 ≤ n) : StF h n t L := by
  obtain ⟨v, f, r, h1, h2, h3, h4, h5⟩ := hS
  exact ⟨v, f, r, h1, h2, h3, by omega, by omega⟩
theorem dgt_le {k : Nat} : dgt k ≤ 2 := by unfold dgt; split <;> omega
def zc : Nat → Nat
  | 0 => 0
  | m + 1 => zc m + 106 + 30 * (11 - m)
theorem zc_s {m i : Nat} (h : i + (m + 1) = 12) : zc (m + 1) = zc m + 106 + 30 * i := by rw [zc, show 11 - m = i by omega]
theorem gv_ah {σ : CS} {k j m : Nat} (h : j ≠ k) : wAh (gvU σ k m) j = wAh σ j := by
  unfold wAh
  rw [gv_wk h]
theorem gv_st {σ : CS} {k j m : Nat} (h : j ≠ k) : wSt (gvU σ k m) j = wSt σ j := by
  unfold wSt wO
  rw [gv_wk h]
  rfl
theorem gv_wo {σ : CS} {k j m : Nat} (h : j ≠ k) : wO (gvU σ k m) j = wO σ j := by
  unfold wO
  rw [gv_wk h]
theorem q_sign {h : AH} {d bc bs n k : Nat} (hT : TXT h) (hk : k ≤ 100) (hn : 100 ≤ n) (hd : 8 ≤ d) (h1 : 6 ≤ bc) (h2 : 26 ≤ bs) : SM SR0 MX5_sign d bc bs [.int (nI k)] h n (TXo h n 2) := by
  refine sm_of pn_OverwalksModel rfl (Nat.le_of_ble_eq_true rfl) ?_
  refine sw_iload_n (pc' := 1) rfl dX5_sign_0 rfl ?_
  refine sw_bipush (pc' := 3) (v := 100) rfl dX5_sign_1 (by decide +kernel) ?_
  refine sw_icmp_ne (pc' := 6) (tgt := 11) rfl dX5_sign_3 (by decide +kernel) (fun c3 => ?_) (fun c3 => ?_)
  · have k1 : k < 100 := by
      have k2 : k ≠ 100 := fun e => c3 (by rw [e]; rfl)
      omega
    refine sw_new (ci := 1) (pc' := 14) rfl dX5_sign_11 (by decide +kernel) w_1354 w_682 w_54 (by omega) (Nat.le_trans (Nat.le_of_ble_eq_true rfl) (show 4 ≤ _ by omega)) ?_
    refine sw_nm (fun g1 eg1 => ?_)
    have zg1 := (congrFun eg1 n).trans (up_s (h := h) (i := n))
    refine sw_dup (pc' := 15) rfl dX5_sign_14 rfl ?_
    have f1 : FN 1 = 4 := rfl
    refine sw_I (M' := MJ4_init_da8c8) (d' := d - 1) (bc' := 1) (bs' := 16) (as := []) dX5_sign_15 w_1355 ok_J4_init_da8c8 (j_initSB (n0 := n) zg1 (Nat.le_refl _) (Nat.lt_succ_self _) (by omega) (Nat.le_refl _) (Nat.le_refl _) (by omega)) (by omega) (Nat.le_of_ble_eq_true rfl) (by omega) (by omega) (fun E h' n' _ z => sbo_x z) (sbo_k (fun p pn pk pS pF => ?_))
    have pG : ∀ i, i < n → p i = h i := fun i hi => (pF i (Or.inl hi)).trans ((congrFun eg1 i).trans (up_n (by omega)))
    obtain ⟨a0, f0, fl0, hS0, -⟩ := id (pS)
    refine sw_ldcS (pc' := 20) rfl dX5_sign_18 (SRm 19 rfl) (by decide +kernel) ?_
    refine sw_V (M' := MJ4_append_15ec4) (d' := d - 1) (bc' := 1) (bs' := 0) (ci := 1) (as := [_]) dX5_sign_20 w_1356 ok_J4_append_15ec4 (j_appendS pS (Nat.le_refl _) (by omega) (by omega) ((hT.fr (fun i hi => pG i (by omega))).2.2.1.c (by omega)) (by omega) (by omega) (Nat.le_refl _) (by decide +kernel)) hS0 rfl (by omega) (Nat.le_of_ble_eq_true rfl) (by omega) (by omega) (fun E h' n' _ z => sbo_x z) (sbo_k (fun q qn qk qS qF => ?_))
    have qS : SbF q qn n n 0 16 := qS
    have qG : ∀ i, i < n → q i = h i := fun i hi => (qF i (Or.inl hi)).trans (pG i hi)
    obtain ⟨a1, f1, fl1, hS1, -⟩ := id qS
    refine sw_iload_n (pc' := 24) rfl dX5_sign_23 rfl ?_
    refine sw_V (M' := MJ4_append_bf812) (d' := d - 1) (bc' := 1) (bs' := 0) (ci := 1) (as := [_]) dX5_sign_24 w_1362 ok_J4_append_bf812 (j_appendI qS (Nat.le_refl _) (by omega) (by omega) (hT.fr (fun i hi => qG i (by omega))) k1 (by omega) (by omega) (Nat.le_refl _) (Nat.le_of_eq (grC_s (by have := dgt_le (k := k); omega)))) hS1 rfl (by omega) (Nat.le_of_ble_eq_true rfl) (by omega) (by omega) (fun E h' n' _ z => sbo_x z) (sbo_k (fun r rn rk rS rF => ?_))
    rw [show capN 16 (0 + dgt k) = 16 from capN_s (by have := dgt_le (k := k); omega)] at rS
    have rG : ∀ i, i < n → r i = h i := fun i hi => (rF i (Or.inl hi)).trans (qG i hi)
    obtain ⟨a2, f2, fl2, hS2, -⟩ := id rS
    have dgl := dgt_le (k := k)
    refine sw_V (M' := MJ4_toString_0e30d) (d' := d - 1) (bc' := 2) (bs' := (0 + dgt k + 4)) (ci := 1) (as := []) dX5_sign_27 w_1363 ok_J4_toString_0e30d (j_toString rS (by omega) (by omega) (Nat.le_refl _) (Nat.le_refl _) (by omega)) hS2 rfl (by omega) (Nat.le_of_ble_eq_true rfl) (by omega) (by omega) (fun E h' n' _ z => spo_x z) (spo_k (fun w wn t wk wS wF => ?_))
    refine sw_ret (v := some _) ⟨dX5_sign_30, _, rfl, Or.inl ⟨_, rfl⟩⟩ ?_
    exact ⟨by omega, t, _, rfl, by omega, wS.low (by omega), fun i hi => (wF i (by omega)).trans (rG i hi)⟩
  · refine sw_ldcS (pc' := 8) rfl dX5_sign_6 (SRm 22 rfl) (by decide +kernel) ?_
    refine sw_goto (tgt := 30) dX5_sign_8 (by decide +kernel) ?_
    refine sw_ret (v := some _) ⟨dX5_sign_30, _, rfl, Or.inl ⟨_, rfl⟩⟩ ?_
    exact ⟨Nat.le_refl _, 52, 1, rfl, by omega, hT.2.2.2.2.1.n (by omega), fun _ _ => rfl⟩
theorem ql_text {h0 : AH} {d n z len : Nat} {g : Nat → Int32} (hT : TXT h0) (hz : h0 z = .inl (0, len, .inl g)) (hz0 : 100 ≤ z) (hzn : z < n) (hlen : len ≤ 12) (hg : ∀ j, j < len → ∃ x, x ≤ 100 ∧ g j = nI x) (hn : 100 ≤ n) (hd : 9 ≤ d) (m : Nat) : ∀ (i bc bs pn t L : Nat) (p : AH), i + m = len → n ≤ pn → StN p pn n t L → L ≤ 3 * i → (∀ j, j < n → p j = h0 j) → 13 * m ≤ bc → 220 * m ≤ bs → SW SR0 MX5_text d bc bs 5 [(2, .int (nI i)), (1, .ref t), (0, .ref z)] [] p pn (TXo h0 n 36) := by
  induction m with
  | zero =>
    intro i bc bs pn t L p hi hnp hS hL hF h1 h2
    refine sw_iload_n (pc' := 6) rfl dX5_text_5 rfl ?_
    refine sw_aload_n (pc' := 7) rfl dX5_text_6 rfl ?_
    refine sw_alen (pc' := 8) rfl dX5_text_7 ((hF z hzn).trans hz) (by decide +kernel) (Or.inl (by show 100 ≤ _; omega)) ?_
    refine sw_icmp_ge (pc' := 11) (tgt := 55) rfl dX5_text_8 (by decide +kernel) (fun c8 => ?_) (fun c8 => ?_)
    · refine sw_aload_n (pc' := 56) rfl dX5_text_55 rfl ?_
      refine sw_ret (v := some _) ⟨dX5_text_56, _, rfl, Or.inl ⟨_, rfl⟩⟩ ?_
      exact ⟨hnp, t, L, rfl, by omega, hS, hF⟩
    · exact absurd ((nI_leI (by omega) (by omega)).mpr (by omega)) c8
  | succ m ih =>
    intro i bc bs pn t L p hi hnp hS hL hF h1 h2
    obtain ⟨x, hx, ex⟩ := hg i (by omega)
    refine sw_iload_n (pc' := 6) rfl dX5_text_5 rfl ?_
    refine sw_aload_n (pc' := 7) rfl dX5_text_6 rfl ?_
    refine sw_alen (pc' := 8) rfl dX5_text_7 ((hF z hzn).trans hz) (by decide +kernel) (Or.inl (by show 100 ≤ _; omega)) ?_
    refine sw_icmp_ge (pc' := 11) (tgt := 55) rfl dX5_text_8 (by decide +kernel) (fun c8 => ?_) (fun c8 => ?_)
    · exact absurd c8 (nI_ge (by omega) (by omega))
    · refine sw_new (ci := 1) (pc' := 14) rfl dX5_text_11 (by decide +kernel) w_1354 w_682 w_54 (by omega) (Nat.le_trans (Nat.le_of_ble_eq_true rfl) (show 4 ≤ _ by omega)) ?_
      refine sw_nm (fun g1 eg1 => ?_)
      have zg1 := (congrFun eg1 pn).trans (up_s (h := p) (i := pn))
      refine sw_dup (pc' := 15) rfl dX5_text_14 rfl ?_
      have f1 : FN 1 = 4 := rfl
      refine sw_I (M' := MJ4_init_da8c8) (d' := d - 1) (bc' := 1) (bs' := 16) (as := []) dX5_text_15 w_1355 ok_J4_init_da8c8 (j_initSB (n0 := pn) zg1 (Nat.le_refl _) (Nat.lt_succ_self _) (by omega) (Nat.le_refl _) (Nat.le_refl _) (by omega)) (by omega) (Nat.le_of_ble_eq_true rfl) (by omega) (by omega) (fun E h' n' _ z => sbo_x z) (sbo_k (fun u un uk uS uF => ?_))
      have uG : ∀ i, i < pn → u i = p i := fun i hi => (uF i (Or.inl hi)).trans ((congrFun eg1 i).trans (up_n (by omega)))
      obtain ⟨a0, f0, fl0, hS0, -⟩ := id uS
      refine sw_aload_n (pc' := 19) rfl dX5_text_18 rfl ?_
      obtain ⟨vp1, vp2, vp3, vp4⟩ := pot (m := 16) (q := 0 + L) (K := 80) (by omega) (by omega)
      refine sw_V (M' := MJ4_append_15ec4) (d' := d - 1) (bc' := 1) (bs' := (grC 16 (0 + L))) (ci := 1) (as := [_]) dX5_text_19 w_1356 ok_J4_append_15ec4 (j_appendS uS (Nat.le_refl _) (by omega) (by omega) ((hS.fr (h' := u) (fun i _ hi => uG i hi) (Nat.le_refl _)).st.k) (by omega) (by omega) (Nat.le_refl _) (Nat.le_refl _)) hS0 rfl (by omega) (Nat.le_of_ble_eq_true rfl) (by omega) (by omega) (fun E h' n' _ z => sbo_x z) (sbo_k (fun v vn vk vS vF => ?_))
      obtain ⟨av, fv, flv, hSv, -⟩ := id vS
      have vG : ∀ i, i < pn → v i = p i := fun i hi => (vF i (Or.inl hi)).trans (uG i hi)
      refine sw_iload_n (pc' := 23) rfl dX5_text_22 rfl ?_
      refine sw_if_ne (pc' := 26) (tgt := 31) rfl dX5_text_23 (by decide +kernel) (fun c23 => ?_) (fun c23 => ?_)
      · refine sw_ldcS (pc' := 33) rfl dX5_text_31 (SRm 21 rfl) (by decide +kernel) ?_
        obtain ⟨wp1, wp2, wp3, wp4⟩ := pot (m := (capN 16 (0 + L))) (q := 0 + L + 1) (K := 80) (by omega) (by omega)
        refine sw_V (M' := MJ4_append_15ec4) (d' := d - 1) (bc' := 1) (bs' := (grC (capN 16 (0 + L)) (0 + L + 1))) (ci := 1) (as := [_]) dX5_text_33 w_1356 ok_J4_append_15ec4 (j_appendS vS (Nat.le_refl _) (by omega) (by omega) ((hT.fr (fun i hi => (vG i (by omega)).trans (hF i (by omega)))).2.2.2.1.c (by omega)) (by omega) (by omega) (Nat.le_refl _) (Nat.le_refl _)) hSv rfl (by omega) (Nat.le_of_ble_eq_true rfl) (by omega) (by omega) (fun E h' n' _ z => sbo_x z) (sbo_k (fun w wn wk wS wF => ?_))
        obtain ⟨aw, fw, flw, hSw, -⟩ := id wS
        have wG : ∀ i, i < pn → w i = p i := fun i hi => (wF i (Or.inl hi)).trans (vG i hi)
        refine sw_aload_n (pc' := 37) rfl dX5_text_36 rfl ?_
        refine sw_iload_n (pc' := 38) rfl dX5_text_37 rfl ?_
        refine sw_iald (j := i) (pc' := 39) rfl dX5_text_38 (((wG z (by omega)).trans (hF z hzn)).trans hz) rfl (by omega) (by omega) ?_
        rw [ex]
        refine sw_S (M' := MX5_sign) (d' := d - 1) (bc' := 6) (bs' := 26) (as := [_]) dX5_text_39 w_1358 ok_X5_sign (q_sign (k := x) (hT.fr (fun i hi => (wG i (by omega)).trans (hF i (by omega)))) hx (by omega) (by omega) (Nat.le_refl _) (Nat.le_refl _)) (by omega) (Nat.le_of_ble_eq_true rfl) (by omega) (by omega) (fun E h' n' _ z => txo_x z) (txo_k (fun y yn yt yL yk yl yS yF => ?_))
        obtain ⟨rp1, rp2, rp3, rp4⟩ := pot (m := (capN (capN 16 (0 + L)) (0 + L + 1))) (q := 0 + L + 1 + yL) (K := 80) (by omega) (by omega)
        refine sw_V (M' := MJ4_append_15ec4) (d' := d - 1) (bc' := 1) (bs' := (grC (capN (capN 16 (0 + L)) (0 + L + 1)) (0 + L + 1 + yL))) (ci := 1) (as := [_]) dX5_text_42 w_1356 ok_J4_append_15ec4 (j_appendS (wS.fr yF (Nat.le_refl _)) yk (by omega) (by omega) (yS.k (by omega)) (by omega) (by omega) (Nat.le_refl _) (Nat.le_refl _)) ((yF pn (by have := wS.lt; omega)).trans hSw) rfl (by omega) (Nat.le_of_ble_eq_true rfl) (by omega) (by omega) (fun E h' n' _ z => sbo_x z) (sbo_k (fun r rn rk rS rF => ?_))
        obtain ⟨ar, fr, flr, hSr, -⟩ := id rS
        have rG : ∀ i, i < pn → r i = p i := fun i hi => (rF i (Or.inl hi)).trans ((yF i (by omega)).trans (wG i hi))
        have rlt := rS.lt
        refine sw_V (M' := MJ4_toString_0e30d) (d' := d - 1) (bc' := 2) (bs' := (0 + L + 1 + yL + 4)) (ci := 1) (as := []) dX5_text_45 w_1363 ok_J4_toString_0e30d (j_toString rS (by omega) (by omega) (Nat.le_refl _) (Nat.le_refl _) (by omega)) hSr rfl (by omega) (Nat.le_of_ble_eq_true rfl) (by omega) (by omega) (fun E h' n' _ z => spo_x z) (spo_k (fun s sn t2 sk sS sF => ?_))
        refine sw_astore_n (pc' := 49) (lv' := [(1, _), (2, _), (0, _)]) rfl dX5_text_48 (by decide +kernel) rfl ?_
        refine sw_iinc (pc' := 52) (lv' := [(2, _), (1, _), (0, _)]) (v := nI (i + 1)) rfl dX5_text_49 rfl (nI_1 i) (by decide +kernel) rfl ?_
        refine sw_goto (tgt := 5) dX5_text_52 (by decide +kernel) ?_
        exact ih (i + 1) _ _ sn t2 _ s (by omega) (by omega) (sS.low (by omega)) (by omega) (fun j hj => (sF j (by omega)).trans ((rG j (by omega)).trans (hF j hj))) (by omega) (by omega)
      · refine sw_ldcS (pc' := 28) rfl dX5_text_26 (SRm 19 rfl) (by decide +kernel) ?_
        refine sw_goto (tgt := 33) dX5_text_28 (by decide +kernel) ?_
        obtain ⟨wp1, wp2, wp3, wp4⟩ := pot (m := (capN 16 (0 + L))) (q := 0 + L + 0) (K := 80) (by omega) (by omega)
        refine sw_V (M' := MJ4_append_15ec4) (d' := d - 1) (bc' := 1) (bs' := (grC (capN 16 (0 + L)) (0 + L + 0))) (ci := 1) (as := [_]) dX5_text_33 w_1356 ok_J4_append_15ec4 (j_appendS vS (Nat.le_refl _) (by omega) (by omega) ((hT.fr (fun i hi => (vG i (by omega)).trans (hF i (by omega)))).2.2.1.c (by omega)) (by omega) (by omega) (Nat.le_refl _) (Nat.le_refl _)) hSv rfl (by omega) (Nat.le_of_ble_eq_true rfl) (by omega) (by omega) (fun E h' n' _ z => sbo_x z) (sbo_k (fun w wn wk wS wF => ?_))
        obtain ⟨aw, fw, flw, hSw, -⟩ := id wS
        have wG : ∀ i, i < pn → w i = p i := fun i hi => (wF i (Or.inl hi)).trans (vG i hi)
        refine sw_aload_n (pc' := 37) rfl dX5_text_36 rfl ?_
        refine sw_iload_n (pc' := 38) rfl dX5_text_37 rfl ?_
        refine sw_iald (j := i) (pc' := 39) rfl dX5_text_38 (((wG z (by omega)).trans (hF z hzn)).trans hz) rfl (by omega) (by omega) ?_
        rw [ex]
        refine sw_S (M' := MX5_sign) (d' := d - 1) (bc' := 6) (bs' := 26) (as := [_]) dX5_text_39 w_1358 ok_X5_sign (q_sign (k := x) (hT.fr (fun i hi => (wG i (by omega)).trans (hF i (by omega)))) hx (by omega) (by omega) (Nat.le_refl _) (Nat.le_refl _)) (by omega) (Nat.le_of_ble_eq_true rfl) (by omega) (by omega) (fun E h' n' _ z => txo_x z) (txo_k (fun y yn yt yL yk yl yS yF => ?_))
        obtain ⟨rp1, rp2, rp3, rp4⟩ := pot (m := (capN (capN 16 (0 + L)) (0 + L + 0))) (q := 0 + L + 0 + yL) (K := 80) (by omega) (by omega)
        refine sw_V (M' := MJ4_append_15ec4) (d' := d - 1) (bc' := 1) (bs' := (grC (capN (capN 16 (0 + L)) (0 + L + 0)) (0 + L + 0 + yL))) (ci := 1) (as := [_]) dX5_text_42 w_1356 ok_J4_append_15ec4 (j_appendS (wS.fr yF (Nat.le_refl _)) yk (by omega) (by omega) (yS.k (by omega)) (by omega) (by omega) (Nat.le_refl _) (Nat.le_refl _)) ((yF pn (by have := wS.lt; omega)).trans hSw) rfl (by omega) (Nat.le_of_ble_eq_true rfl) (by omega) (by omega) (fun E h' n' _ z => sbo_x z) (sbo_k (fun r rn rk rS rF => ?_))
        obtain ⟨ar, fr, flr, hSr, -⟩ := id rS
        have rG : ∀ i, i < pn → r i = p i := fun i hi => (rF i (Or.inl hi)).trans ((yF i (by omega)).trans (wG i hi))
        have rlt := rS.lt
        refine sw_V (M' := MJ4_toString_0e30d) (d' := d - 1) (bc' := 2) (bs' := (0 + L + 0 + yL + 4)) (ci := 1) (as := []) dX5_text_45 w_1363 ok_J4_toString_0e30d (j_toString rS (by omega) (by omega) (Nat.le_refl _) (Nat.le_refl _) (by omega)) hSr rfl (by omega) (Nat.le_of_ble_eq_true rfl) (by omega) (by omega) (fun E h' n' _ z => spo_x z) (spo_k (fun s sn t2 sk sS sF => ?_))
        refine sw_astore_n (pc' := 49) (lv' := [(1, _), (2, _), (0, _)]) rfl dX5_text_48 (by decide +kernel) rfl ?_
        refine sw_iinc (pc' := 52) (lv' := [(2, _), (1, _), (0, _)]) (v := nI (i + 1)) rfl dX5_text_49 rfl (nI_1 i) (by decide +kernel) rfl ?_
        refine sw_goto (tgt := 5) dX5_text_52 (by decide +kernel) ?_
        exact ih (i + 1) _ _ sn t2 _ s (by omega) (by omega) (sS.low (by omega)) (by omega) (fun j hj => (sF j (by omega)).trans ((rG j (by omega)).trans (hF j hj))) (by omega) (by omega)
theorem q_textA {h : AH} {d bc bs n z len : Nat} {g : Nat → Int32} (hT : TXT h) (hz : h z = .inl (0, len, .inl g)) (hz0 : 100 ≤ z) (hzn : z < n) (hlen : len ≤ 12) (hg : ∀ j, j < len → ∃ x, x ≤ 100 ∧ g j = nI x) (hn : 100 ≤ n) (hd : 9 ≤ d) (h1 : 156 ≤ bc) (h2 : 2640 ≤ bs) : SM SR0 MX5_text d bc bs [.ref z] h n (TXo h n 36) := by
  refine sm_of pn_OverwalksModel rfl (Nat.le_of_ble_eq_true rfl) ?_
  refine sw_ldcS (pc' := 2) rfl dX5_text_0 (SRm 19 rfl) (by decide +kernel) ?_
  refine sw_astore_n (pc' := 3) (lv' := [(1, _), (0, _)]) rfl dX5_text_2 (by decide +kernel) rfl ?_
  refine sw_iconst (pc' := 4) (v := 0) rfl dX5_text_3 (by decide +kernel) ?_
  refine sw_istore_n (pc' := 5) (lv' := [(2, _), (1, _), (0, _)]) rfl dX5_text_4 (by decide +kernel) rfl ?_
  refine SW.pick [0, 1, 2] rfl (ql_text hT hz hz0 hzn hlen hg hn hd len 0 bc bs n 48 0 h (by omega) (Nat.le_refl _) (hT.2.2.1.n (by omega)) (by omega) (fun _ _ => rfl) (by omega) (by omega))
theorem q_text {h : AH} {d bc bs n : Nat} {σ : CS} {th : Int32} {a : Int32} (hR : RMo h σ th) (hI : Iv σ) (hn : 159 ≤ n) (hd : 12 ≤ d) (h1 : 200 ≤ bc) (h2 : 2800 ≤ bs) (hT : TXT h) : SM SR0 MX5_text_ d bc bs [.ref 135, .int a] h n (PT h n (tc sI sI) (opText σ a)) := by
  obtain ⟨ρ, τ, hM, hA⟩ := hR
  obtain ⟨G0, hG0, eG0⟩ := hM.out
  refine sm_of pn_OverwalksModel rfl (Nat.le_of_ble_eq_true rfl) ?_
  rcases idxN 11 (by decide +kernel) a with qk1 | ⟨k, hk, rfl⟩
  · refine sw_aload_n (pc' := 1) rfl dX5_text__0 rfl ?_
    refine sw_iload_n (pc' := 2) rfl dX5_text__1 rfl ?_
    refine sw_S (M' := MX5_isNone) (d' := d - 1) (bc' := 0) (bs' := 0) (as := [_]) dX5_text__2 w_1165 ok_X5_isNone (q_isNone (by omega)) (by omega) (Nat.le_of_ble_eq_true rfl) (Nat.zero_le _) (Nat.zero_le _) (fun E h' n' _ z => det_x z) (det_k ?_)
    rw [show inB a 0 10 = false from no_x (N := 10) (by decide +kernel) qk1]
    show SW _ _ _ _ _ _ _ (.int 1 :: _) _ _ _
    refine sw_V (M' := MX5_isStopped__) (d' := d - 1) (bc' := 0) (bs' := 0) (ci := 6) (as := [_]) dX5_text__5 w_1235 ok_X5_isStopped__ (q_isStopped1 (a := true) hM hA (by omega)) hM.ob rfl (by omega) (Nat.le_of_ble_eq_true rfl) (Nat.zero_le _) (Nat.zero_le _) (fun E h' n' _ z => rp_x z) (rp_k (fun p5 p5ρ p5τ p5M p5A p5F => ?_))
    obtain ⟨Gp5, hGp5, eGp5⟩ := p5M.out
    show SW _ _ _ _ _ _ _ (.int 1 :: _) _ _ _
    refine sw_if_eq (pc' := 11) (tgt := 16) rfl dX5_text__8 (by decide +kernel) (fun c8 => ?_) (fun c8 => ?_)
    · exact absurd c8 (by decide +kernel)
    · refine sw_ldcS (pc' := 13) rfl dX5_text__11 (SRm 19 rfl) (by decide +kernel) ?_
      refine sw_goto (tgt := 25) dX5_text__13 (by decide +kernel) ?_
      refine sw_ret (v := some _) ⟨dX5_text__25, _, rfl, Or.inl ⟨_, rfl⟩⟩ ?_
      rw [opText, onSh_x qk1]
      exact pt_x tc_1 p5M p5A p5F (Nat.le_refl _)
  have hck := hI.1 k hk
  refine sw_aload_n (pc' := 1) rfl dX5_text__0 rfl ?_
  refine sw_iload_n (pc' := 2) rfl dX5_text__1 rfl ?_
  refine sw_S (M' := MX5_isNone) (d' := d - 1) (bc' := 0) (bs' := 0) (as := [_]) dX5_text__2 w_1165 ok_X5_isNone (q_isNone (by omega)) (by omega) (Nat.le_of_ble_eq_true rfl) (Nat.zero_le _) (Nat.zero_le _) (fun E h' n' _ z => det_x z) (det_k ?_)
  rw [show inB (nI k) 0 10 = true from inB_k (N := 10) (by omega) (by decide +kernel)]
  show SW _ _ _ _ _ _ _ (.int 0 :: _) _ _ _
  refine sw_V (M' := MX5_isStopped__) (d' := d - 1) (bc' := 0) (bs' := 0) (ci := 6) (as := [_]) dX5_text__5 w_1235 ok_X5_isStopped__ (q_isStopped1 (a := false) hM hA (by omega)) hM.ob rfl (by omega) (Nat.le_of_ble_eq_true rfl) (Nat.zero_le _) (Nat.zero_le _) (fun E h' n' _ z => rp_x z) (rp_k (fun p5 p5ρ p5τ p5M p5A p5F => ?_))
  obtain ⟨Gp5, hGp5, eGp5⟩ := p5M.out
  show SW _ _ _ _ _ _ _ (.int 0 :: _) _ _ _
  refine sw_if_eq (pc' := 11) (tgt := 16) rfl dX5_text__8 (by decide +kernel) (fun c8 => ?_) (fun c8 => ?_)
  · refine sw_aload_n (pc' := 17) rfl dX5_text__16 rfl ?_
    refine sw_iload_n (pc' := 18) rfl dX5_text__17 rfl ?_
    refine sw_iconst (pc' := 19) (v := 0) rfl dX5_text__18 (by decide +kernel) ?_
    refine sw_V (M' := MX5_picture) (d' := d - 1) (bc' := 1) (bs' := 12) (ci := 6) (as := [_, _]) dX5_text__19 w_1255 ok_X5_picture (q_picture p5M p5A (k := k) (by omega) (hI.1 k (by omega)) (by omega) (by omega) (by omega)) p5M.ob rfl (by omega) (Nat.le_of_ble_eq_true rfl) (by omega) (by omega) (fun E h' n' _ z => na_x z) (na_k (fun p19 p19f p19N p19g p19F => ?_))
    have p19M := p5M.fr (fun i h1 h2 => p19F i (by omega))
    obtain ⟨Gp19, hGp19, eGp19⟩ := p19M.out
    refine sw_S (M' := MX5_text) (d' := d - 1) (bc' := 156) (bs' := 2640) (as := [_]) dX5_text__22 w_1351 ok_X5_text (q_textA (hT.fr (fun i hi => (p5F.tr (fun i q g => p19F i (by omega)) (Nat.le_refl _)) i (by omega) (by omega))) p19N (by omega) (Nat.lt_succ_self _) (by omega) (fun j hj => by rw [p19g j hj]; exact (show thI σ from hI.2.2.1).at hk hj) (by omega) (by omega) (Nat.le_refl _) (Nat.le_refl _)) (by omega) (Nat.le_of_ble_eq_true rfl) (by omega) (by omega) (fun E h' n' _ z => txo_x z) (txo_k (fun w wn wt wL wk wl wS wF => ?_))
    refine sw_ret (v := some _) ⟨dX5_text__25, _, rfl, Or.inl ⟨_, rfl⟩⟩ ?_
    rw [opText, onSh_k hk]
    exact pt_k (p19M.fr (fun i h1 h2 => wF i (by omega))) p5A ((p5F.tr (fun i q g => p19F i (by omega)) (Nat.le_refl _)).tr (fun i _ hi => wF i (by omega)) (Nat.le_refl _)) (by omega)
  · exact absurd c8 (by decide +kernel)
theorem q_list {h : AH} {d bc bs n : Nat} {σ : CS} {th : Int32} {a : Int32} (hR : RMo h σ th) (hI : Iv σ) (hn : 159 ≤ n) (hd : 13 ≤ d) (h1 : 200 ≤ bc) (h2 : 2800 ≤ bs) (hT : TXT h) : SM SR0 MX5_list d bc bs [.ref 135, .int a] h n (PT h n (tc sI sI) (opText σ a)) := by
  obtain ⟨ρ, τ, hM, hA⟩ := id hR
  refine sm_of pn_OverwalksModel rfl (Nat.le_of_ble_eq_true rfl) ?_
  refine sw_aload_n (pc' := 1) rfl dX5_list_0 rfl ?_
  refine sw_iload_n (pc' := 2) rfl dX5_list_1 rfl ?_
  refine sw_V (M' := MX5_text_) (d' := d - 1) (bc' := 200) (bs' := 2800) (ci := 6) (as := [_]) dX5_list_2 w_1408 ok_X5_text_ (q_text hR hI hn (by omega) (Nat.le_refl _) (Nat.le_refl _) hT) hM.ob rfl (by omega) (Nat.le_of_ble_eq_true rfl) (by omega) (by omega) (fun E h' n' _ z => ptc_x z) (ptc_k (fun p pn x pP => ?_))
  refine sw_ret (v := some _) ⟨dX5_list_5, _, rfl, Or.inl ⟨_, rfl⟩⟩ ?_
  exact pP
theorem q_rest {h : AH} {d bc bs n : Nat} {σ : CS} {th : Int32} {a : Int32} (hR : RMo h σ th) (hI : Iv σ) (hn : 159 ≤ n) (hd : 12 ≤ d) (h1 : 200 ≤ bc) (h2 : 2800 ≤ bs) (hT : TXT h) : SM SR0 MX5_rest d bc bs [.ref 135, .int a] h n (PT h n (tc sI sS) (opRest σ a)) := by
  obtain ⟨ρ, τ, hM, hA⟩ := hR
  obtain ⟨G0, hG0, eG0⟩ := hM.out
  refine sm_of pn_OverwalksModel rfl (Nat.le_of_ble_eq_true rfl) ?_
  rcases idxN 6 (by decide +kernel) a with qk1 | ⟨k, hk, rfl⟩
  · refine sw_aload_n (pc' := 1) rfl dX5_rest_0 rfl ?_
    refine sw_iload_n (pc' := 2) rfl dX5_rest_1 rfl ?_
    refine sw_S (M' := MX5_isNoWalk) (d' := d - 1) (bc' := 0) (bs' := 0) (as := [_]) dX5_rest_2 w_1306 ok_X5_isNoWalk (q_isNoWalk (by omega)) (by omega) (Nat.le_of_ble_eq_true rfl) (Nat.zero_le _) (Nat.zero_le _) (fun E h' n' _ z => det_x z) (det_k ?_)
    rw [show inB a 0 5 = false from no_x (N := 5) (by decide +kernel) qk1]
    show SW _ _ _ _ _ _ _ (.int 1 :: _) _ _ _
    refine sw_aload_n (pc' := 6) rfl dX5_rest_5 rfl ?_
    refine sw_iload_n (pc' := 7) rfl dX5_rest_6 rfl ?_
    refine sw_V (M' := MX5_isUnmade) (d' := d - 1) (bc' := 0) (bs' := 0) (ci := 6) (as := [_]) dX5_rest_7 w_1313 ok_X5_isUnmade (q_isUnmade_x hM (no_x (N := 5) (by decide +kernel) qk1) (by omega)) hM.ob rfl (by omega) (Nat.le_of_ble_eq_true rfl) (Nat.zero_le _) (Nat.zero_le _) (fun E h' n' _ z => det_x z) (det_k ?_)
    refine sw_V (M' := MX5_isStopped_) (d' := d - 1) (bc' := 0) (bs' := 0) (ci := 6) (as := [_, _]) dX5_rest_10 w_1215 ok_X5_isStopped_ (q_isStopped2 (a := true) (b := false) hM hA (by omega)) hM.ob rfl (by omega) (Nat.le_of_ble_eq_true rfl) (Nat.zero_le _) (Nat.zero_le _) (fun E h' n' _ z => rp_x z) (rp_k (fun p10 p10ρ p10τ p10M p10A p10F => ?_))
    obtain ⟨Gp10, hGp10, eGp10⟩ := p10M.out
    show SW _ _ _ _ _ _ _ (.int 1 :: _) _ _ _
    refine sw_if_eq (pc' := 16) (tgt := 19) rfl dX5_rest_13 (by decide +kernel) (fun c13 => ?_) (fun c13 => ?_)
    · exact absurd c13 (by decide +kernel)
    · refine sw_ldcS (pc' := 18) rfl dX5_rest_16 (SRm 19 rfl) (by decide +kernel) ?_
      refine sw_ret (v := some _) ⟨dX5_rest_18, _, rfl, Or.inl ⟨_, rfl⟩⟩ ?_
      rw [opRest, onWk_x qk1]
      exact pt_x tc_1 p10M p10A p10F (Nat.le_refl _)
  have ovk := hI.2.2.2.2.2.2.1 k hk
  have hcwk := hI.1 _ ovk
  rcases Classical.em ((σ.2.2.2.2.1 k).1 = false) with qm | qm
  · refine sw_aload_n (pc' := 1) rfl dX5_rest_0 rfl ?_
    refine sw_iload_n (pc' := 2) rfl dX5_rest_1 rfl ?_
    refine sw_S (M' := MX5_isNoWalk) (d' := d - 1) (bc' := 0) (bs' := 0) (as := [_]) dX5_rest_2 w_1306 ok_X5_isNoWalk (q_isNoWalk (by omega)) (by omega) (Nat.le_of_ble_eq_true rfl) (Nat.zero_le _) (Nat.zero_le _) (fun E h' n' _ z => det_x z) (det_k ?_)
    rw [show inB (nI k) 0 5 = true from inB_k (N := 5) (by omega) (by decide +kernel)]
    show SW _ _ _ _ _ _ _ (.int 0 :: _) _ _ _
    refine sw_aload_n (pc' := 6) rfl dX5_rest_5 rfl ?_
    refine sw_iload_n (pc' := 7) rfl dX5_rest_6 rfl ?_
    refine sw_V (M' := MX5_isUnmade) (d' := d - 1) (bc' := 0) (bs' := 0) (ci := 6) (as := [_]) dX5_rest_7 w_1313 ok_X5_isUnmade (q_isUnmade_k hM (k := k) (by omega) (hI.2.2.2.2.2.2.1 k (by omega)) (by omega)) hM.ob rfl (by omega) (Nat.le_of_ble_eq_true rfl) (Nat.zero_le _) (Nat.zero_le _) (fun E h' n' _ z => det_x z) (det_k ?_)
    rw [show (σ.2.2.2.2.1 k).1 = false from qm]
    show SW _ _ _ _ _ _ _ (.int 1 :: _) _ _ _
    refine sw_V (M' := MX5_isStopped_) (d' := d - 1) (bc' := 0) (bs' := 0) (ci := 6) (as := [_, _]) dX5_rest_10 w_1215 ok_X5_isStopped_ (q_isStopped2 (a := false) (b := true) hM hA (by omega)) hM.ob rfl (by omega) (Nat.le_of_ble_eq_true rfl) (Nat.zero_le _) (Nat.zero_le _) (fun E h' n' _ z => rp_x z) (rp_k (fun p10 p10ρ p10τ p10M p10A p10F => ?_))
    obtain ⟨Gp10, hGp10, eGp10⟩ := p10M.out
    show SW _ _ _ _ _ _ _ (.int 1 :: _) _ _ _
    refine sw_if_eq (pc' := 16) (tgt := 19) rfl dX5_rest_13 (by decide +kernel) (fun c13 => ?_) (fun c13 => ?_)
    · exact absurd c13 (by decide +kernel)
    · refine sw_ldcS (pc' := 18) rfl dX5_rest_16 (SRm 19 rfl) (by decide +kernel) ?_
      refine sw_ret (v := some _) ⟨dX5_rest_18, _, rfl, Or.inl ⟨_, rfl⟩⟩ ?_
      rw [opRest, onWk_k hk, if_pos qm]
      exact pt_x (tc_2 sSI) p10M p10A p10F (Nat.le_refl _)
  refine sw_aload_n (pc' := 1) rfl dX5_rest_0 rfl ?_
  refine sw_iload_n (pc' := 2) rfl dX5_rest_1 rfl ?_
  refine sw_S (M' := MX5_isNoWalk) (d' := d - 1) (bc' := 0) (bs' := 0) (as := [_]) dX5_rest_2 w_1306 ok_X5_isNoWalk (q_isNoWalk (by omega)) (by omega) (Nat.le_of_ble_eq_true rfl) (Nat.zero_le _) (Nat.zero_le _) (fun E h' n' _ z => det_x z) (det_k ?_)
  rw [show inB (nI k) 0 5 = true from inB_k (N := 5) (by omega) (by decide +kernel)]
  show SW _ _ _ _ _ _ _ (.int 0 :: _) _ _ _
  refine sw_aload_n (pc' := 6) rfl dX5_rest_5 rfl ?_
  refine sw_iload_n (pc' := 7) rfl dX5_rest_6 rfl ?_
  refine sw_V (M' := MX5_isUnmade) (d' := d - 1) (bc' := 0) (bs' := 0) (ci := 6) (as := [_]) dX5_rest_7 w_1313 ok_X5_isUnmade (q_isUnmade_k hM (k := k) (by omega) (hI.2.2.2.2.2.2.1 k (by omega)) (by omega)) hM.ob rfl (by omega) (Nat.le_of_ble_eq_true rfl) (Nat.zero_le _) (Nat.zero_le _) (fun E h' n' _ z => det_x z) (det_k ?_)
  rw [show (σ.2.2.2.2.1 k).1 = true from (mkT qm)]
  show SW _ _ _ _ _ _ _ (.int 0 :: _) _ _ _
  refine sw_V (M' := MX5_isStopped_) (d' := d - 1) (bc' := 0) (bs' := 0) (ci := 6) (as := [_, _]) dX5_rest_10 w_1215 ok_X5_isStopped_ (q_isStopped2 (a := false) (b := false) hM hA (by omega)) hM.ob rfl (by omega) (Nat.le_of_ble_eq_true rfl) (Nat.zero_le _) (Nat.zero_le _) (fun E h' n' _ z => rp_x z) (rp_k (fun p10 p10ρ p10τ p10M p10A p10F => ?_))
  obtain ⟨Gp10, hGp10, eGp10⟩ := p10M.out
  show SW _ _ _ _ _ _ _ (.int 0 :: _) _ _ _
  refine sw_if_eq (pc' := 16) (tgt := 19) rfl dX5_rest_13 (by decide +kernel) (fun c13 => ?_) (fun c13 => ?_)
  · refine sw_aload_n (pc' := 20) rfl dX5_rest_19 rfl ?_
    refine sw_iload_n (pc' := 21) rfl dX5_rest_20 rfl ?_
    refine sw_V (M' := MX5_isStale) (d' := d - 1) (bc' := 0) (bs' := 0) (ci := 6) (as := [_]) dX5_rest_21 w_1317 ok_X5_isStale (q_isStale p10M (k := k) (by omega) (mkT qm) (hI.2.2.2.2.2.2.1 k (by omega))) p10M.ob rfl (by omega) (Nat.le_of_ble_eq_true rfl) (Nat.zero_le _) (Nat.zero_le _) (fun E h' n' _ z => det_x z) (det_k ?_)
    refine sw_if_ne (pc' := 27) (tgt := 37) rfl dX5_rest_24 (by decide +kernel) (fun c24 => ?_) (fun c24 => ?_)
    · refine sw_aload_n (pc' := 38) rfl dX5_rest_37 rfl ?_
      refine sw_V (M' := MX5_noText) (d' := d - 1) (bc' := 0) (bs' := 0) (ci := 6) (as := []) dX5_rest_38 w_1342 ok_X5_noText (q_noText p10M p10A) p10M.ob rfl (by omega) (Nat.le_of_ble_eq_true rfl) (Nat.zero_le _) (Nat.zero_le _) (fun E h' n' _ z => rp_x z) (rp_k (fun p38 p38ρ p38τ p38M p38A p38F => ?_))
      obtain ⟨Gp38, hGp38, eGp38⟩ := p38M.out
      refine sw_goto (tgt := 52) dX5_rest_41 (by decide +kernel) ?_
      refine sw_ret (v := some _) ⟨dX5_rest_52, _, rfl, Or.inl ⟨_, rfl⟩⟩ ?_
      rw [opRest, onWk_k hk, if_neg qm, if_pos (wGa_s (bI_1 c24))]
      exact pt_k p38M p38A (p10F.tr p38F (Nat.le_refl _)) (Nat.le_refl _)
    · refine sw_aload_n (pc' := 28) rfl dX5_rest_27 rfl ?_
      refine sw_getf (ci := 6) (k := 7) (pc' := 31) rfl dX5_rest_28 (by decide +kernel) w_1120 p10M.ob rfl ?_
      refine sw_iload_n (pc' := 32) rfl dX5_rest_31 rfl ?_
      refine sw_iald (j := k) (pc' := 33) rfl dX5_rest_32 p10M.hw rfl (by omega) (by decide +kernel) ?_
      refine sw_iconst (pc' := 34) (v := 1) rfl dX5_rest_33 (by decide +kernel) ?_
      refine sw_icmp_ne (pc' := 37) (tgt := 44) rfl dX5_rest_34 (by decide +kernel) (fun c34 => ?_) (fun c34 => ?_)
      · obtain ⟨A, eA, hA1, hA2⟩ := hI.2.2.2.2.2.2.2 k hk (mkT qm) (bI_0 c24)
        refine sw_aload_n (pc' := 45) rfl dX5_rest_44 rfl ?_
        refine sw_iload_n (pc' := 46) rfl dX5_rest_45 rfl ?_
        refine sw_V (M' := MX5_left) (d' := d - 1) (bc' := 1) (bs' := 12) (ci := 6) (as := [_]) dX5_rest_46 w_1347 ok_X5_left (q_left p10M p10A (k := k) (by omega) (mkT qm) (hI.2.2.2.2.2.2.1 k (by omega)) (hI.1 _ (hI.2.2.2.2.2.2.1 k (by omega))) eA hA1 (by omega) (by omega) (by omega) (by omega)) p10M.ob rfl (by omega) (Nat.le_of_ble_eq_true rfl) (by omega) (by omega) (fun E h' n' _ z => nl_x z) (nl_k (fun p46 p46ρ p46τ p46f p46M p46A p46N p46g p46F => ?_))
        obtain ⟨Gp46, hGp46, eGp46⟩ := p46M.out
        refine sw_S (M' := MX5_text) (d' := d - 1) (bc' := 156) (bs' := 2640) (as := [_]) dX5_rest_49 w_1351 ok_X5_text (q_textA (hT.fr (fun i hi => (p10F.tr p46F (Nat.le_refl _)) i (by omega) (by omega))) p46N (by omega) (Nat.lt_succ_self _) (by omega) (fun j hj => by rw [p46g j hj]; exact (show thI σ from hI.2.2.1).at ovk (by omega)) (by omega) (by omega) (Nat.le_refl _) (Nat.le_refl _)) (by omega) (Nat.le_of_ble_eq_true rfl) (by omega) (by omega) (fun E h' n' _ z => txo_x z) (txo_k (fun w wn wt wL wk wl wS wF => ?_))
        refine sw_ret (v := some _) ⟨dX5_rest_52, _, rfl, Or.inl ⟨_, rfl⟩⟩ ?_
        rw [opRest, onWk_k hk, if_neg qm, if_neg (fun e => Bool.noConfusion (e.symm.trans (wGa_t (bI_0 c24) c34))), wGu_eq (bI_0 c24) hcwk eA hA1 (by omega)]
        exact pt_k (p46M.fr (fun i h1 h2 => wF i (by omega))) p46A ((p10F.tr p46F (Nat.le_refl _)).tr (fun i _ hi => wF i (by omega)) (Nat.le_refl _)) (by omega)
      · refine sw_aload_n (pc' := 38) rfl dX5_rest_37 rfl ?_
        refine sw_V (M' := MX5_noText) (d' := d - 1) (bc' := 0) (bs' := 0) (ci := 6) (as := []) dX5_rest_38 w_1342 ok_X5_noText (q_noText p10M p10A) p10M.ob rfl (by omega) (Nat.le_of_ble_eq_true rfl) (Nat.zero_le _) (Nat.zero_le _) (fun E h' n' _ z => rp_x z) (rp_k (fun p38 p38ρ p38τ p38M p38A p38F => ?_))
        obtain ⟨Gp38, hGp38, eGp38⟩ := p38M.out
        refine sw_goto (tgt := 52) dX5_rest_41 (by decide +kernel) ?_
        refine sw_ret (v := some _) ⟨dX5_rest_52, _, rfl, Or.inl ⟨_, rfl⟩⟩ ?_
        rw [opRest, onWk_k hk, if_neg qm, if_pos (wGa_1 c34)]
        exact pt_k p38M p38A (p10F.tr p38F (Nat.le_refl _)) (Nat.le_refl _)
  · exact absurd c13 (by decide +kernel)
theorem ql_zip {h0 : AH} {d n k j N : Nat} (hT : TXT h0) (hN : N < 2 ^ 31) (hk : k < 6) (hj : j < 6) (hne : k ≠ j) (hn : 159 ≤ n) (hd : 9 ≤ d) (m : Nat) : ∀ (i bc bs pn t L : Nat) (p : AH) (σ : CS), i + m = 12 → RMo p σ 0 → IV σ N → (σ.2.2.2.2.1 k).1 = true → (σ.2.2.2.2.1 j).1 = true → wSt σ k = false → wSt σ j = false → (∀ A : Nat, wAh σ k = nI A → σ.2.1 (wO σ k) ≤ A + m) → n ≤ pn → StN p pn n t L → L ≤ 6 * i → FrM h0 p n → 21 * m ≤ bc → zc m ≤ bs → SW SR0 MX5_zip d bc bs 84 [(3, .ref t), (0, .ref 135), (1, .int (nI k)), (2, .int (nI j))] [] p pn (PT h0 n (tc sI sA) (ivN, zpU σ k j m)) := by
  induction m with
  | zero =>
    intro i bc bs pn t L p σ hi hR hV hmk hmj hs hs2 hfu hnp hS hL hG h1 h2
    obtain ⟨ρ, τ, hM, hA⟩ := id hR
    have hI := hV.iv hN
    have ovk := hI.2.2.2.2.2.2.1 k hk
    have ovj := hI.2.2.2.2.2.2.1 j hj
    have hck := hI.1 _ ovk
    have hcj := hI.1 _ ovj
    obtain ⟨A, eA, hA1, -⟩ := hI.2.2.2.2.2.2.2 k hk hmk hs
    obtain ⟨A2, eA2, hA2, -⟩ := hI.2.2.2.2.2.2.2 j hj hmj hs2
    have hf := hfu A eA
    refine sw_aload_n (pc' := 85) rfl dX5_zip_84 rfl ?_
    refine sw_iload_n (pc' := 86) rfl dX5_zip_85 rfl ?_
    refine sw_V (M' := MX5_hasMore) (d' := d - 1) (bc' := 0) (bs' := 0) (ci := 6) (as := [_]) dX5_zip_86 w_1321 ok_X5_hasMore (q_hasMore hM hk hmk ovk) hM.ob rfl (by omega) (Nat.le_of_ble_eq_true rfl) (Nat.zero_le _) (Nat.zero_le _) (fun E h' n' _ z => det_x z) (det_k ?_)
    refine sw_if_eq (pc' := 92) (tgt := 162) rfl dX5_zip_89 (by decide +kernel) (fun c89 => ?_) (fun c89 => ?_)
    · refine sw_aload_n (pc' := 163) rfl dX5_zip_162 rfl ?_
      refine sw_ret (v := some _) ⟨dX5_zip_163, _, rfl, Or.inl ⟨_, rfl⟩⟩ ?_
      exact ⟨hnp, ⟨t, rfl⟩, hR, hG⟩
    · exact absurd (of_decide_eq_true (bI_1 c89)) (by rw [eA]; exact nI_nlt (by omega) (by omega))
  | succ m ih =>
    intro i bc bs pn t L p σ hi hR hV hmk hmj hs hs2 hfu hnp hS hL hG h1 h2
    obtain ⟨ρ, τ, hM, hA⟩ := id hR
    have hI := hV.iv hN
    have ovk := hI.2.2.2.2.2.2.1 k hk
    have ovj := hI.2.2.2.2.2.2.1 j hj
    have hck := hI.1 _ ovk
    have hcj := hI.1 _ ovj
    obtain ⟨A, eA, hA1, -⟩ := hI.2.2.2.2.2.2.2 k hk hmk hs
    obtain ⟨A2, eA2, hA2, -⟩ := hI.2.2.2.2.2.2.2 j hj hmj hs2
    have hf := hfu A eA
    have zs := zc_s hi
    refine sw_aload_n (pc' := 85) rfl dX5_zip_84 rfl ?_
    refine sw_iload_n (pc' := 86) rfl dX5_zip_85 rfl ?_
    refine sw_V (M' := MX5_hasMore) (d' := d - 1) (bc' := 0) (bs' := 0) (ci := 6) (as := [_]) dX5_zip_86 w_1321 ok_X5_hasMore (q_hasMore hM hk hmk ovk) hM.ob rfl (by omega) (Nat.le_of_ble_eq_true rfl) (Nat.zero_le _) (Nat.zero_le _) (fun E h' n' _ z => det_x z) (det_k ?_)
    refine sw_if_eq (pc' := 92) (tgt := 162) rfl dX5_zip_89 (by decide +kernel) (fun c89 => ?_) (fun c89 => ?_)
    · refine sw_aload_n (pc' := 163) rfl dX5_zip_162 rfl ?_
      refine sw_ret (v := some _) ⟨dX5_zip_163, _, rfl, Or.inl ⟨_, rfl⟩⟩ ?_
      have e9 : zpU σ k j (m + 1) = σ := if_neg (fun g => Bool.noConfusion ((wHM_f hs (bI_0 c89)).symm.trans g.1))
      rw [e9]
      exact ⟨hnp, ⟨t, rfl⟩, hR, hG⟩
    · refine sw_aload_n (pc' := 93) rfl dX5_zip_92 rfl ?_
      refine sw_iload_n (pc' := 94) rfl dX5_zip_93 rfl ?_
      refine sw_V (M' := MX5_hasMore) (d' := d - 1) (bc' := 0) (bs' := 0) (ci := 6) (as := [_]) dX5_zip_94 w_1321 ok_X5_hasMore (q_hasMore hM hj hmj ovj) hM.ob rfl (by omega) (Nat.le_of_ble_eq_true rfl) (Nat.zero_le _) (Nat.zero_le _) (fun E h' n' _ z => det_x z) (det_k ?_)
      refine sw_if_eq (pc' := 100) (tgt := 162) rfl dX5_zip_97 (by decide +kernel) (fun c97 => ?_) (fun c97 => ?_)
      · refine sw_aload_n (pc' := 163) rfl dX5_zip_162 rfl ?_
        refine sw_ret (v := some _) ⟨dX5_zip_163, _, rfl, Or.inl ⟨_, rfl⟩⟩ ?_
        have e9 : zpU σ k j (m + 1) = σ := if_neg (fun g => Bool.noConfusion ((wHM_f hs2 (bI_0 c97)).symm.trans g.2))
        rw [e9]
        exact ⟨hnp, ⟨t, rfl⟩, hR, hG⟩
      · refine sw_new (ci := 1) (pc' := 103) rfl dX5_zip_100 (by decide +kernel) w_1354 w_682 w_54 (by omega) (Nat.le_trans (Nat.le_of_ble_eq_true rfl) (show 4 ≤ _ by omega)) ?_
        refine sw_nm (fun g1 eg1 => ?_)
        have zg1 := (congrFun eg1 pn).trans (up_s (h := p) (i := pn))
        refine sw_dup (pc' := 104) rfl dX5_zip_103 rfl ?_
        have f1 : FN 1 = 4 := rfl
        have g1 : wHM σ k = true := by rw [wHM_m hs]; exact bI_1 c89
        have g2 : wHM σ j = true := by rw [wHM_m hs2]; exact bI_1 c97
        have hA3 : A < σ.2.1 (wO σ k) := (nI_ltI (by omega) (by omega)).mp (eA ▸ of_decide_eq_true (bI_1 c89))
        have hA4 : A2 < σ.2.1 (wO σ j) := (nI_ltI (by omega) (by omega)).mp (eA2 ▸ of_decide_eq_true (bI_1 c97))
        obtain ⟨x, hx, ex⟩ := (show thI σ from hI.2.2.1).at ovk hA3
        obtain ⟨y, hy, ey⟩ := (show thI σ from hI.2.2.1).at ovj hA4
        have hnj := Ne.symm hne
        have V1 : IV (gvU σ k 1) N := iv_g1 hV hk g1
        have g3 : wHM (gvU σ k 1) j = true := (gv_hm hnj).trans g2
        have V2 : IV (gvU (gvU σ k 1) j 1) N := iv_g1 V1 hj g3
        have hm1 : ((gvU σ k 1).2.2.2.2.1 j).1 = true := by rw [gv_wk hnj]; exact hmj
        refine sw_I (M' := MJ4_init_da8c8) (d' := d - 1) (bc' := 1) (bs' := 16) (as := []) dX5_zip_104 w_1355 ok_J4_init_da8c8 (j_initSB (n0 := pn) zg1 (Nat.le_refl _) (Nat.lt_succ_self _) (by omega) (Nat.le_refl _) (Nat.le_refl _) (by omega)) (by omega) (Nat.le_of_ble_eq_true rfl) (by omega) (by omega) (fun E h' n' _ z => sbo_x z) (sbo_k (fun u un uk uS uF => ?_))
        have uG : ∀ i, i < pn → u i = p i := fun i hi => (uF i (Or.inl hi)).trans ((congrFun eg1 i).trans (up_n (by omega)))
        obtain ⟨a0, f0, fl0, hS0, -⟩ := id uS
        refine sw_aload_n (pc' := 108) rfl dX5_zip_107 rfl ?_
        obtain ⟨vp1, vp2, vp3, vp4⟩ := pot (m := 16) (q := 0 + L) (K := 12 * i + 28) (by omega) (by omega)
        refine sw_V (M' := MJ4_append_15ec4) (d' := d - 1) (bc' := 1) (bs' := (grC 16 (0 + L))) (ci := 1) (as := [_]) dX5_zip_108 w_1356 ok_J4_append_15ec4 (j_appendS uS (Nat.le_refl _) (by omega) (by omega) ((hS.fr (h' := u) (fun i _ hi => uG i hi) (Nat.le_refl _)).st.k) (by omega) (by omega) (Nat.le_refl _) (Nat.le_refl _)) hS0 rfl (by omega) (Nat.le_of_ble_eq_true rfl) (by omega) (by omega) (fun E h' n' _ z => sbo_x z) (sbo_k (fun v vn vk vS vF => ?_))
        obtain ⟨av, fv, flv, hSv, -⟩ := id vS
        have vlt := vS.lt
        have vG : ∀ i, i < pn → v i = p i := fun i hi => (vF i (Or.inl hi)).trans (uG i hi)
        have hSv9 : StF v pn t L := (hS.fr (h' := v) (fun i _ hi => vG i hi) (Nat.le_refl _)).st
        obtain ⟨tv, tf, tr, ht9, hv9, hf9, htl9, hvl9⟩ := id hSv9
        refine sw_aload_n (pc' := 112) rfl dX5_zip_111 rfl ?_
        refine sw_V (M' := MJ0_isEmpty_aae02) (d' := d - 1) (bc' := 0) (bs' := 0) (ci := 0) (as := []) dX5_zip_112 w_1395 ok_J0_isEmpty_aae02 (j_sempty hSv9 (by omega)) ht9 rfl (by omega) (Nat.le_of_ble_eq_true rfl) (Nat.zero_le _) (Nat.zero_le _) (fun E h' n' _ z => det_x z) (det_k ?_)
        refine sw_if_eq (pc' := 118) (tgt := 123) rfl dX5_zip_115 (by decide +kernel) (fun c115 => ?_) (fun c115 => ?_)
        · refine sw_ldcS (pc' := 125) rfl dX5_zip_123 (SRm 21 rfl) (by decide +kernel) ?_
          obtain ⟨wp1, wp2, wp3, wp4⟩ := pot (m := (capN 16 (0 + L))) (q := 0 + L + 1) (K := 12 * i + 28) (by omega) (by omega)
          refine sw_V (M' := MJ4_append_15ec4) (d' := d - 1) (bc' := 1) (bs' := (grC (capN 16 (0 + L)) (0 + L + 1))) (ci := 1) (as := [_]) dX5_zip_125 w_1356 ok_J4_append_15ec4 (j_appendS vS (Nat.le_refl _) (by omega) (by omega) ((hT.fr (fun i hi => (vG i (by omega)).trans (hG i (by omega) (by omega)))).2.2.2.1.c (by omega)) (by omega) (by omega) (Nat.le_refl _) (Nat.le_refl _)) hSv rfl (by omega) (Nat.le_of_ble_eq_true rfl) (by omega) (by omega) (fun E h' n' _ z => sbo_x z) (sbo_k (fun w wn wk wS wF => ?_))
          obtain ⟨aw, fw, flw, hSw, -⟩ := id wS
          have wlt := wS.lt
          have wG : ∀ i, i < pn → w i = p i := fun i hi => (wF i (Or.inl hi)).trans (vG i hi)
          obtain ⟨Gw, hGw, eGw⟩ := hM.out
          refine sw_aload_n (pc' := 129) rfl dX5_zip_128 rfl ?_
          refine sw_iload_n (pc' := 130) rfl dX5_zip_129 rfl ?_
          have wM : MM w ρ τ σ 0 := hM.fr (fun i a b => wG i (by omega))
          refine sw_V (M' := MX5_give) (d' := d - 1) (bc' := 0) (bs' := 0) (ci := 6) (as := [_]) dX5_zip_130 w_1325 ok_X5_give (q_give wM hA hk hmk ovk hck eA hA3) wM.ob rfl (by omega) (Nat.le_of_ble_eq_true rfl) (Nat.zero_le _) (Nat.zero_le _) (fun E h' n' _ z => rp_x z) (rp_k (fun g gρ gτ gM gA gF => ?_))
          rw [ex]
          refine sw_S (M' := MX5_sign) (d' := d - 1) (bc' := 6) (bs' := 26) (as := [_]) dX5_zip_133 w_1358 ok_X5_sign (q_sign (k := x) (hT.fr (fun i hi => (gF i (by omega) (by omega)).trans ((wG i (by omega)).trans (hG i (by omega) (by omega))))) hx (by omega) (by omega) (Nat.le_refl _) (Nat.le_refl _)) (by omega) (Nat.le_of_ble_eq_true rfl) (by omega) (by omega) (fun E h' n' _ z => txo_x z) (txo_k (fun y1 y1n y1t y1L y1k y1l y1S y1F => ?_))
          obtain ⟨rp1, rp2, rp3, rp4⟩ := pot (m := (capN (capN 16 (0 + L)) (0 + L + 1))) (q := 0 + L + 1 + y1L) (K := 12 * i + 28) (by omega) (by omega)
          refine sw_V (M' := MJ4_append_15ec4) (d' := d - 1) (bc' := 1) (bs' := (grC (capN (capN 16 (0 + L)) (0 + L + 1)) (0 + L + 1 + y1L))) (ci := 1) (as := [_]) dX5_zip_136 w_1356 ok_J4_append_15ec4 (j_appendS (wS.frW (fun i h9 hi => (y1F i (by omega)).trans (gF i (by omega) hi)) (Nat.le_refl _)) (by omega) (by omega) (by omega) (y1S.k (by omega)) (by omega) (by omega) (Nat.le_refl _) (Nat.le_refl _)) ((y1F pn (by omega)).trans ((gF pn (by omega) (by omega)).trans hSw)) rfl (by omega) (Nat.le_of_ble_eq_true rfl) (by omega) (by omega) (fun E h' n' _ z => sbo_x z) (sbo_k (fun r rn rk rS rF => ?_))
          obtain ⟨ar, fr, flr, hSr, -⟩ := id rS
          have rlt := rS.lt
          have rG : ∀ i, i < 135 ∨ 158 ≤ i → i < pn → r i = p i := fun i a hi => (rF i (Or.inl hi)).trans ((y1F i (by omega)).trans ((gF i (by omega) (by omega)).trans (wG i hi)))
          have rR : RMo r (gvU σ k 1) 0 := RMo.fr ⟨gρ, gτ, gM, gA⟩ (fun i a b => (rF i (by omega)).trans (y1F i (by omega)))
          refine sw_ldcS (pc' := 141) rfl dX5_zip_139 (SRm 23 rfl) (by decide +kernel) ?_
          obtain ⟨lp1, lp2, lp3, lp4⟩ := pot (m := (capN (capN (capN 16 (0 + L)) (0 + L + 1)) (0 + L + 1 + y1L))) (q := 0 + L + 1 + y1L + 1) (K := 12 * i + 28) (by omega) (by omega)
          refine sw_V (M' := MJ4_append_15ec4) (d' := d - 1) (bc' := 1) (bs' := (grC (capN (capN (capN 16 (0 + L)) (0 + L + 1)) (0 + L + 1 + y1L)) (0 + L + 1 + y1L + 1))) (ci := 1) (as := [_]) dX5_zip_141 w_1356 ok_J4_append_15ec4 (j_appendS rS (Nat.le_refl _) (by omega) (by omega) ((hT.fr (fun i hi => (rG i (by omega) (by omega)).trans (hG i (by omega) (by omega)))).2.2.2.2.2.1.c (by omega)) (by omega) (by omega) (Nat.le_refl _) (Nat.le_refl _)) hSr rfl (by omega) (Nat.le_of_ble_eq_true rfl) (by omega) (by omega) (fun E h' n' _ z => sbo_x z) (sbo_k (fun l ln lk lS lF => ?_))
          obtain ⟨al, fl, fll, hSl, -⟩ := id lS
          have llt := lS.lt
          have lG : ∀ i, i < 135 ∨ 158 ≤ i → i < pn → l i = p i := fun i a hi => (lF i (Or.inl hi)).trans (rG i a hi)
          have lR : RMo l (gvU σ k 1) 0 := rR.fr (fun i a b => lF i (by omega))
          obtain ⟨lρ, lτ, lM, lA⟩ := lR
          refine sw_aload_n (pc' := 145) rfl dX5_zip_144 rfl ?_
          refine sw_iload_n (pc' := 146) rfl dX5_zip_145 rfl ?_
          refine sw_V (M' := MX5_give) (d' := d - 1) (bc' := 0) (bs' := 0) (ci := 6) (as := [_]) dX5_zip_146 w_1325 ok_X5_give (q_give (A := A2) lM lA hj hm1 (by rw [gv_wo hnj]; exact ovj) (by rw [gv_wo hnj]; exact hcj) ((gv_ah hnj).trans eA2) (by rw [gv_wo hnj]; exact hA4)) lM.ob rfl (by omega) (Nat.le_of_ble_eq_true rfl) (Nat.zero_le _) (Nat.zero_le _) (fun E h' n' _ z => rp_x z) (rp_k (fun o oρ oτ oM oA oF => ?_))
          rw [show (gvU σ k 1).1 (wO (gvU σ k 1) j) A2 = nI y from by rw [gv_wo hnj]; exact ey]
          refine sw_S (M' := MX5_sign) (d' := d - 1) (bc' := 6) (bs' := 26) (as := [_]) dX5_zip_149 w_1358 ok_X5_sign (q_sign (k := y) (hT.fr (fun i hi => (oF i (by omega) (by omega)).trans ((lG i (by omega) (by omega)).trans (hG i (by omega) (by omega))))) hy (by omega) (by omega) (Nat.le_refl _) (Nat.le_refl _)) (by omega) (Nat.le_of_ble_eq_true rfl) (by omega) (by omega) (fun E h' n' _ z => txo_x z) (txo_k (fun y2 y2n y2t y2L y2k y2l y2S y2F => ?_))
          obtain ⟨ep1, ep2, ep3, ep4⟩ := pot (m := (capN (capN (capN (capN 16 (0 + L)) (0 + L + 1)) (0 + L + 1 + y1L)) (0 + L + 1 + y1L + 1))) (q := 0 + L + 1 + y1L + 1 + y2L) (K := 12 * i + 28) (by omega) (by omega)
          refine sw_V (M' := MJ4_append_15ec4) (d' := d - 1) (bc' := 1) (bs' := (grC (capN (capN (capN (capN 16 (0 + L)) (0 + L + 1)) (0 + L + 1 + y1L)) (0 + L + 1 + y1L + 1)) (0 + L + 1 + y1L + 1 + y2L))) (ci := 1) (as := [_]) dX5_zip_152 w_1356 ok_J4_append_15ec4 (j_appendS (lS.frW (fun i h9 hi => (y2F i (by omega)).trans (oF i (by omega) hi)) (Nat.le_refl _)) (by omega) (by omega) (by omega) (y2S.k (by omega)) (by omega) (by omega) (Nat.le_refl _) (Nat.le_refl _)) ((y2F pn (by omega)).trans ((oF pn (by omega) (by omega)).trans hSl)) rfl (by omega) (Nat.le_of_ble_eq_true rfl) (by omega) (by omega) (fun E h' n' _ z => sbo_x z) (sbo_k (fun e en ek eS eF => ?_))
          obtain ⟨ae, fe, fle, hSe, -⟩ := id eS
          have elt := eS.lt
          have eG : ∀ i, i < 135 ∨ 158 ≤ i → i < pn → e i = p i := fun i a hi => (eF i (Or.inl hi)).trans ((y2F i (by omega)).trans ((oF i (by omega) (by omega)).trans (lG i a hi)))
          have eR : RMo e (gvU (gvU σ k 1) j 1) 0 := RMo.fr ⟨oρ, oτ, oM, oA⟩ (fun i a b => (eF i (by omega)).trans (y2F i (by omega)))
          refine sw_V (M' := MJ4_toString_0e30d) (d' := d - 1) (bc' := 2) (bs' := (0 + L + 1 + y1L + 1 + y2L + 4)) (ci := 1) (as := []) dX5_zip_155 w_1363 ok_J4_toString_0e30d (j_toString eS (by omega) (by omega) (Nat.le_refl _) (Nat.le_refl _) (by omega)) hSe rfl (by omega) (Nat.le_of_ble_eq_true rfl) (by omega) (by omega) (fun E h' n' _ z => spo_x z) (spo_k (fun s sn t2 sk sS sF => ?_))
          refine sw_astore_n (pc' := 159) (lv' := [(3, _), (0, _), (1, _), (2, _)]) rfl dX5_zip_158 (by decide +kernel) rfl ?_
          refine sw_goto (tgt := 84) dX5_zip_159 (by decide +kernel) ?_
          have e9 : zpU σ k j (m + 1) = zpU (gvU (gvU σ k 1) j 1) k j m := if_pos ⟨g1, g2⟩
          rw [e9]
          refine ih (i + 1) _ _ sn t2 _ s _ (by omega) (eR.fr (fun i a b => sF i (by omega))) V2 (by rw [gv_wk hne, gv_mk]; exact hmk) (by rw [gv_mk]; exact hm1) ((gv_st hne).trans (wSt_g.trans hs)) (wSt_g.trans ((gv_st hnj).trans hs2)) (fun A9 e9 => ?_) (by omega) (sS.low (by omega)) (by omega) (fun i a hi => (sF i (by omega)).trans ((eG i a (by omega)).trans (hG i a hi))) (by omega) (by omega)
          rw [gv_ah hne, wAh_g eA] at e9
          rw [gv_wo hne]
          have e8 : σ.2.1 (wO σ k) ≤ 12 := hck
          have e7 : wO (gvU σ k 1) k = wO σ k := by unfold wO gvU wU; dsimp only; rw [up_s]; rfl
          rw [e7]
          show σ.2.1 (wO σ k) ≤ A9 + m
          have e6 : A + 1 = A9 ∨ 2 ^ 31 ≤ A9 := (Nat.lt_or_ge A9 (2 ^ 31)).elim (fun g => Or.inl ((nI_eq (by omega) g).mp e9)) Or.inr
          omega
        · refine sw_ldcS (pc' := 120) rfl dX5_zip_118 (SRm 19 rfl) (by decide +kernel) ?_
          refine sw_goto (tgt := 125) dX5_zip_120 (by decide +kernel) ?_
          obtain ⟨wp1, wp2, wp3, wp4⟩ := pot (m := (capN 16 (0 + L))) (q := 0 + L + 0) (K := 12 * i + 28) (by omega) (by omega)
          refine sw_V (M' := MJ4_append_15ec4) (d' := d - 1) (bc' := 1) (bs' := (grC (capN 16 (0 + L)) (0 + L + 0))) (ci := 1) (as := [_]) dX5_zip_125 w_1356 ok_J4_append_15ec4 (j_appendS vS (Nat.le_refl _) (by omega) (by omega) ((hT.fr (fun i hi => (vG i (by omega)).trans (hG i (by omega) (by omega)))).2.2.1.c (by omega)) (by omega) (by omega) (Nat.le_refl _) (Nat.le_refl _)) hSv rfl (by omega) (Nat.le_of_ble_eq_true rfl) (by omega) (by omega) (fun E h' n' _ z => sbo_x z) (sbo_k (fun w wn wk wS wF => ?_))
          obtain ⟨aw, fw, flw, hSw, -⟩ := id wS
          have wlt := wS.lt
          have wG : ∀ i, i < pn → w i = p i := fun i hi => (wF i (Or.inl hi)).trans (vG i hi)
          obtain ⟨Gw, hGw, eGw⟩ := hM.out
          refine sw_aload_n (pc' := 129) rfl dX5_zip_128 rfl ?_
          refine sw_iload_n (pc' := 130) rfl dX5_zip_129 rfl ?_
          have wM : MM w ρ τ σ 0 := hM.fr (fun i a b => wG i (by omega))
          refine sw_V (M' := MX5_give) (d' := d - 1) (bc' := 0) (bs' := 0) (ci := 6) (as := [_]) dX5_zip_130 w_1325 ok_X5_give (q_give wM hA hk hmk ovk hck eA hA3) wM.ob rfl (by omega) (Nat.le_of_ble_eq_true rfl) (Nat.zero_le _) (Nat.zero_le _) (fun E h' n' _ z => rp_x z) (rp_k (fun g gρ gτ gM gA gF => ?_))
          rw [ex]
          refine sw_S (M' := MX5_sign) (d' := d - 1) (bc' := 6) (bs' := 26) (as := [_]) dX5_zip_133 w_1358 ok_X5_sign (q_sign (k := x) (hT.fr (fun i hi => (gF i (by omega) (by omega)).trans ((wG i (by omega)).trans (hG i (by omega) (by omega))))) hx (by omega) (by omega) (Nat.le_refl _) (Nat.le_refl _)) (by omega) (Nat.le_of_ble_eq_true rfl) (by omega) (by omega) (fun E h' n' _ z => txo_x z) (txo_k (fun y1 y1n y1t y1L y1k y1l y1S y1F => ?_))
          obtain ⟨rp1, rp2, rp3, rp4⟩ := pot (m := (capN (capN 16 (0 + L)) (0 + L + 0))) (q := 0 + L + 0 + y1L) (K := 12 * i + 28) (by omega) (by omega)
          refine sw_V (M' := MJ4_append_15ec4) (d' := d - 1) (bc' := 1) (bs' := (grC (capN (capN 16 (0 + L)) (0 + L + 0)) (0 + L + 0 + y1L))) (ci := 1) (as := [_]) dX5_zip_136 w_1356 ok_J4_append_15ec4 (j_appendS (wS.frW (fun i h9 hi => (y1F i (by omega)).trans (gF i (by omega) hi)) (Nat.le_refl _)) (by omega) (by omega) (by omega) (y1S.k (by omega)) (by omega) (by omega) (Nat.le_refl _) (Nat.le_refl _)) ((y1F pn (by omega)).trans ((gF pn (by omega) (by omega)).trans hSw)) rfl (by omega) (Nat.le_of_ble_eq_true rfl) (by omega) (by omega) (fun E h' n' _ z => sbo_x z) (sbo_k (fun r rn rk rS rF => ?_))
          obtain ⟨ar, fr, flr, hSr, -⟩ := id rS
          have rlt := rS.lt
          have rG : ∀ i, i < 135 ∨ 158 ≤ i → i < pn → r i = p i := fun i a hi => (rF i (Or.inl hi)).trans ((y1F i (by omega)).trans ((gF i (by omega) (by omega)).trans (wG i hi)))
          have rR : RMo r (gvU σ k 1) 0 := RMo.fr ⟨gρ, gτ, gM, gA⟩ (fun i a b => (rF i (by omega)).trans (y1F i (by omega)))
          refine sw_ldcS (pc' := 141) rfl dX5_zip_139 (SRm 23 rfl) (by decide +kernel) ?_
          obtain ⟨lp1, lp2, lp3, lp4⟩ := pot (m := (capN (capN (capN 16 (0 + L)) (0 + L + 0)) (0 + L + 0 + y1L))) (q := 0 + L + 0 + y1L + 1) (K := 12 * i + 28) (by omega) (by omega)
          refine sw_V (M' := MJ4_append_15ec4) (d' := d - 1) (bc' := 1) (bs' := (grC (capN (capN (capN 16 (0 + L)) (0 + L + 0)) (0 + L + 0 + y1L)) (0 + L + 0 + y1L + 1))) (ci := 1) (as := [_]) dX5_zip_141 w_1356 ok_J4_append_15ec4 (j_appendS rS (Nat.le_refl _) (by omega) (by omega) ((hT.fr (fun i hi => (rG i (by omega) (by omega)).trans (hG i (by omega) (by omega)))).2.2.2.2.2.1.c (by omega)) (by omega) (by omega) (Nat.le_refl _) (Nat.le_refl _)) hSr rfl (by omega) (Nat.le_of_ble_eq_true rfl) (by omega) (by omega) (fun E h' n' _ z => sbo_x z) (sbo_k (fun l ln lk lS lF => ?_))
          obtain ⟨al, fl, fll, hSl, -⟩ := id lS
          have llt := lS.lt
          have lG : ∀ i, i < 135 ∨ 158 ≤ i → i < pn → l i = p i := fun i a hi => (lF i (Or.inl hi)).trans (rG i a hi)
          have lR : RMo l (gvU σ k 1) 0 := rR.fr (fun i a b => lF i (by omega))
          obtain ⟨lρ, lτ, lM, lA⟩ := lR
          refine sw_aload_n (pc' := 145) rfl dX5_zip_144 rfl ?_
          refine sw_iload_n (pc' := 146) rfl dX5_zip_145 rfl ?_
          refine sw_V (M' := MX5_give) (d' := d - 1) (bc' := 0) (bs' := 0) (ci := 6) (as := [_]) dX5_zip_146 w_1325 ok_X5_give (q_give (A := A2) lM lA hj hm1 (by rw [gv_wo hnj]; exact ovj) (by rw [gv_wo hnj]; exact hcj) ((gv_ah hnj).trans eA2) (by rw [gv_wo hnj]; exact hA4)) lM.ob rfl (by omega) (Nat.le_of_ble_eq_true rfl) (Nat.zero_le _) (Nat.zero_le _) (fun E h' n' _ z => rp_x z) (rp_k (fun o oρ oτ oM oA oF => ?_))
          rw [show (gvU σ k 1).1 (wO (gvU σ k 1) j) A2 = nI y from by rw [gv_wo hnj]; exact ey]
          refine sw_S (M' := MX5_sign) (d' := d - 1) (bc' := 6) (bs' := 26) (as := [_]) dX5_zip_149 w_1358 ok_X5_sign (q_sign (k := y) (hT.fr (fun i hi => (oF i (by omega) (by omega)).trans ((lG i (by omega) (by omega)).trans (hG i (by omega) (by omega))))) hy (by omega) (by omega) (Nat.le_refl _) (Nat.le_refl _)) (by omega) (Nat.le_of_ble_eq_true rfl) (by omega) (by omega) (fun E h' n' _ z => txo_x z) (txo_k (fun y2 y2n y2t y2L y2k y2l y2S y2F => ?_))
          obtain ⟨ep1, ep2, ep3, ep4⟩ := pot (m := (capN (capN (capN (capN 16 (0 + L)) (0 + L + 0)) (0 + L + 0 + y1L)) (0 + L + 0 + y1L + 1))) (q := 0 + L + 0 + y1L + 1 + y2L) (K := 12 * i + 28) (by omega) (by omega)
          refine sw_V (M' := MJ4_append_15ec4) (d' := d - 1) (bc' := 1) (bs' := (grC (capN (capN (capN (capN 16 (0 + L)) (0 + L + 0)) (0 + L + 0 + y1L)) (0 + L + 0 + y1L + 1)) (0 + L + 0 + y1L + 1 + y2L))) (ci := 1) (as := [_]) dX5_zip_152 w_1356 ok_J4_append_15ec4 (j_appendS (lS.frW (fun i h9 hi => (y2F i (by omega)).trans (oF i (by omega) hi)) (Nat.le_refl _)) (by omega) (by omega) (by omega) (y2S.k (by omega)) (by omega) (by omega) (Nat.le_refl _) (Nat.le_refl _)) ((y2F pn (by omega)).trans ((oF pn (by omega) (by omega)).trans hSl)) rfl (by omega) (Nat.le_of_ble_eq_true rfl) (by omega) (by omega) (fun E h' n' _ z => sbo_x z) (sbo_k (fun e en ek eS eF => ?_))
          obtain ⟨ae, fe, fle, hSe, -⟩ := id eS
          have elt := eS.lt
          have eG : ∀ i, i < 135 ∨ 158 ≤ i → i < pn → e i = p i := fun i a hi => (eF i (Or.inl hi)).trans ((y2F i (by omega)).trans ((oF i (by omega) (by omega)).trans (lG i a hi)))
          have eR : RMo e (gvU (gvU σ k 1) j 1) 0 := RMo.fr ⟨oρ, oτ, oM, oA⟩ (fun i a b => (eF i (by omega)).trans (y2F i (by omega)))
          refine sw_V (M' := MJ4_toString_0e30d) (d' := d - 1) (bc' := 2) (bs' := (0 + L + 0 + y1L + 1 + y2L + 4)) (ci := 1) (as := []) dX5_zip_155 w_1363 ok_J4_toString_0e30d (j_toString eS (by omega) (by omega) (Nat.le_refl _) (Nat.le_refl _) (by omega)) hSe rfl (by omega) (Nat.le_of_ble_eq_true rfl) (by omega) (by omega) (fun E h' n' _ z => spo_x z) (spo_k (fun s sn t2 sk sS sF => ?_))
          refine sw_astore_n (pc' := 159) (lv' := [(3, _), (0, _), (1, _), (2, _)]) rfl dX5_zip_158 (by decide +kernel) rfl ?_
          refine sw_goto (tgt := 84) dX5_zip_159 (by decide +kernel) ?_
          have e9 : zpU σ k j (m + 1) = zpU (gvU (gvU σ k 1) j 1) k j m := if_pos ⟨g1, g2⟩
          rw [e9]
          refine ih (i + 1) _ _ sn t2 _ s _ (by omega) (eR.fr (fun i a b => sF i (by omega))) V2 (by rw [gv_wk hne, gv_mk]; exact hmk) (by rw [gv_mk]; exact hm1) ((gv_st hne).trans (wSt_g.trans hs)) (wSt_g.trans ((gv_st hnj).trans hs2)) (fun A9 e9 => ?_) (by omega) (sS.low (by omega)) (by omega) (fun i a hi => (sF i (by omega)).trans ((eG i a (by omega)).trans (hG i a hi))) (by omega) (by omega)
          rw [gv_ah hne, wAh_g eA] at e9
          rw [gv_wo hne]
          have e8 : σ.2.1 (wO σ k) ≤ 12 := hck
          have e7 : wO (gvU σ k 1) k = wO σ k := by unfold wO gvU wU; dsimp only; rw [up_s]; rfl
          rw [e7]
          show σ.2.1 (wO σ k) ≤ A9 + m
          have e6 : A + 1 = A9 ∨ 2 ^ 31 ≤ A9 := (Nat.lt_or_ge A9 (2 ^ 31)).elim (fun g => Or.inl ((nI_eq (by omega) g).mp e9)) Or.inr
          omega
theorem q_zip {h : AH} {d bc bs n : Nat} {σ : CS} {th : Int32} {a b : Int32} (hR : RMo h σ th) (hI : Iv σ) (hn : 159 ≤ n) (hd : 12 ≤ d) (h1 : 300 ≤ bc) (h2 : 3400 ≤ bs) (hT : TXT h) {N : Nat} (hV : IV σ N) (hN : N < 2 ^ 31) : SM SR0 MX5_zip d bc bs [.ref 135, .int a, .int b] h n (PT h n (tc sI sA) (opZip σ a b)) := by
  obtain ⟨ρ, τ, hM, hA⟩ := hR
  obtain ⟨G0, hG0, eG0⟩ := hM.out
  refine sm_of pn_OverwalksModel rfl (Nat.le_of_ble_eq_true rfl) ?_
  rcases idxN 6 (by decide +kernel) a with q | ⟨k, hk, rfl⟩
  · rcases idxN 6 (by decide +kernel) b with q2 | ⟨j, hj, rfl⟩
    · refine sw_aload_n (pc' := 1) rfl dX5_zip_0 rfl ?_
      refine sw_iload_n (pc' := 2) rfl dX5_zip_1 rfl ?_
      refine sw_S (M' := MX5_isNoWalk) (d' := d - 1) (bc' := 0) (bs' := 0) (as := [_]) dX5_zip_2 w_1306 ok_X5_isNoWalk (q_isNoWalk (by omega)) (by omega) (Nat.le_of_ble_eq_true rfl) (Nat.zero_le _) (Nat.zero_le _) (fun E h' n' _ z => det_x z) (det_k ?_)
      rw [show inB a 0 5 = false from no_x (N := 5) (by decide +kernel) q]
      show SW _ _ _ _ _ _ _ (.int 1 :: _) _ _ _
      refine sw_if_ne (pc' := 8) (tgt := 15) rfl dX5_zip_5 (by decide +kernel) (fun c5 => ?_) (fun c5 => ?_)
      · refine sw_iconst (pc' := 16) (v := 1) rfl dX5_zip_15 (by decide +kernel) ?_
        refine sw_goto (tgt := 20) dX5_zip_16 (by decide +kernel) ?_
        refine sw_iload_n (pc' := 21) rfl dX5_zip_20 rfl ?_
        refine sw_iload_n (pc' := 22) rfl dX5_zip_21 rfl ?_
        refine sw_icmp_ne (pc' := 25) (tgt := 29) rfl dX5_zip_22 (by decide +kernel) (fun c22 => ?_) (fun c22 => ?_)
        · refine sw_iconst (pc' := 30) (v := 0) rfl dX5_zip_29 (by decide +kernel) ?_
          refine sw_aload_n (pc' := 31) rfl dX5_zip_30 rfl ?_
          refine sw_iload_n (pc' := 32) rfl dX5_zip_31 rfl ?_
          refine sw_V (M' := MX5_isUnmade) (d' := d - 1) (bc' := 0) (bs' := 0) (ci := 6) (as := [_]) dX5_zip_32 w_1313 ok_X5_isUnmade (q_isUnmade_x hM (no_x (N := 5) (by decide +kernel) q) (by omega)) hM.ob rfl (by omega) (Nat.le_of_ble_eq_true rfl) (Nat.zero_le _) (Nat.zero_le _) (fun E h' n' _ z => det_x z) (det_k ?_)
          refine sw_if_ne (pc' := 38) (tgt := 46) rfl dX5_zip_35 (by decide +kernel) (fun c35 => ?_) (fun c35 => ?_)
          · exact absurd c35 (by decide +kernel)
          · refine sw_aload_n (pc' := 39) rfl dX5_zip_38 rfl ?_
            refine sw_iload_n (pc' := 40) rfl dX5_zip_39 rfl ?_
            refine sw_V (M' := MX5_isUnmade) (d' := d - 1) (bc' := 0) (bs' := 0) (ci := 6) (as := [_]) dX5_zip_40 w_1313 ok_X5_isUnmade (q_isUnmade_x hM (no_x (N := 5) (by decide +kernel) q2) (by omega)) hM.ob rfl (by omega) (Nat.le_of_ble_eq_true rfl) (Nat.zero_le _) (Nat.zero_le _) (fun E h' n' _ z => det_x z) (det_k ?_)
            refine sw_if_eq (pc' := 46) (tgt := 50) rfl dX5_zip_43 (by decide +kernel) (fun c43 => ?_) (fun c43 => ?_)
            · refine sw_iconst (pc' := 51) (v := 0) rfl dX5_zip_50 (by decide +kernel) ?_
              refine sw_V (M' := MX5_isStopped) (d' := d - 1) (bc' := 0) (bs' := 0) (ci := 6) (as := [_, _, _]) dX5_zip_51 w_1174 ok_X5_isStopped (q_isStopped (a := true) (b := false) (c := false) hM hA) hM.ob rfl (by omega) (Nat.le_of_ble_eq_true rfl) (Nat.zero_le _) (Nat.zero_le _) (fun E h' n' _ z => rp_x z) (rp_k (fun p51 p51ρ p51τ p51M p51A p51F => ?_))
              obtain ⟨Gp51, hGp51, eGp51⟩ := p51M.out
              show SW _ _ _ _ _ _ _ (.int 1 :: _) _ _ _
              refine sw_if_eq (pc' := 57) (tgt := 60) rfl dX5_zip_54 (by decide +kernel) (fun c54 => ?_) (fun c54 => ?_)
              · exact absurd c54 (by decide +kernel)
              · refine sw_ldcS (pc' := 59) rfl dX5_zip_57 (SRm 19 rfl) (by decide +kernel) ?_
                refine sw_ret (v := some _) ⟨dX5_zip_59, _, rfl, Or.inl ⟨_, rfl⟩⟩ ?_
                rw [opZip, onWk_x q]
                exact pt_x tc_1 p51M p51A p51F (Nat.le_refl _)
            · exact absurd c43 (by decide +kernel)
        · refine sw_iconst (pc' := 26) (v := 1) rfl dX5_zip_25 (by decide +kernel) ?_
          refine sw_goto (tgt := 30) dX5_zip_26 (by decide +kernel) ?_
          refine sw_aload_n (pc' := 31) rfl dX5_zip_30 rfl ?_
          refine sw_iload_n (pc' := 32) rfl dX5_zip_31 rfl ?_
          refine sw_V (M' := MX5_isUnmade) (d' := d - 1) (bc' := 0) (bs' := 0) (ci := 6) (as := [_]) dX5_zip_32 w_1313 ok_X5_isUnmade (q_isUnmade_x hM (no_x (N := 5) (by decide +kernel) q) (by omega)) hM.ob rfl (by omega) (Nat.le_of_ble_eq_true rfl) (Nat.zero_le _) (Nat.zero_le _) (fun E h' n' _ z => det_x z) (det_k ?_)
          refine sw_if_ne (pc' := 38) (tgt := 46) rfl dX5_zip_35 (by decide +kernel) (fun c35 => ?_) (fun c35 => ?_)
          · exact absurd c35 (by decide +kernel)
          · refine sw_aload_n (pc' := 39) rfl dX5_zip_38 rfl ?_
            refine sw_iload_n (pc' := 40) rfl dX5_zip_39 rfl ?_
            refine sw_V (M' := MX5_isUnmade) (d' := d - 1) (bc' := 0) (bs' := 0) (ci := 6) (as := [_]) dX5_zip_40 w_1313 ok_X5_isUnmade (q_isUnmade_x hM (no_x (N := 5) (by decide +kernel) q2) (by omega)) hM.ob rfl (by omega) (Nat.le_of_ble_eq_true rfl) (Nat.zero_le _) (Nat.zero_le _) (fun E h' n' _ z => det_x z) (det_k ?_)
            refine sw_if_eq (pc' := 46) (tgt := 50) rfl dX5_zip_43 (by decide +kernel) (fun c43 => ?_) (fun c43 => ?_)
            · refine sw_iconst (pc' := 51) (v := 0) rfl dX5_zip_50 (by decide +kernel) ?_
              refine sw_V (M' := MX5_isStopped) (d' := d - 1) (bc' := 0) (bs' := 0) (ci := 6) (as := [_, _, _]) dX5_zip_51 w_1174 ok_X5_isStopped (q_isStopped (a := true) (b := true) (c := false) hM hA) hM.ob rfl (by omega) (Nat.le_of_ble_eq_true rfl) (Nat.zero_le _) (Nat.zero_le _) (fun E h' n' _ z => rp_x z) (rp_k (fun p51 p51ρ p51τ p51M p51A p51F => ?_))
              obtain ⟨Gp51, hGp51, eGp51⟩ := p51M.out
              show SW _ _ _ _ _ _ _ (.int 1 :: _) _ _ _
              refine sw_if_eq (pc' := 57) (tgt := 60) rfl dX5_zip_54 (by decide +kernel) (fun c54 => ?_) (fun c54 => ?_)
              · exact absurd c54 (by decide +kernel)
              · refine sw_ldcS (pc' := 59) rfl dX5_zip_57 (SRm 19 rfl) (by decide +kernel) ?_
                refine sw_ret (v := some _) ⟨dX5_zip_59, _, rfl, Or.inl ⟨_, rfl⟩⟩ ?_
                rw [opZip, onWk_x q]
                exact pt_x tc_1 p51M p51A p51F (Nat.le_refl _)
            · exact absurd c43 (by decide +kernel)
      · exact absurd c5 (by decide +kernel)
    have ovj := hI.2.2.2.2.2.2.1 j hj
    · refine sw_aload_n (pc' := 1) rfl dX5_zip_0 rfl ?_
      refine sw_iload_n (pc' := 2) rfl dX5_zip_1 rfl ?_
      refine sw_S (M' := MX5_isNoWalk) (d' := d - 1) (bc' := 0) (bs' := 0) (as := [_]) dX5_zip_2 w_1306 ok_X5_isNoWalk (q_isNoWalk (by omega)) (by omega) (Nat.le_of_ble_eq_true rfl) (Nat.zero_le _) (Nat.zero_le _) (fun E h' n' _ z => det_x z) (det_k ?_)
      rw [show inB a 0 5 = false from no_x (N := 5) (by decide +kernel) q]
      show SW _ _ _ _ _ _ _ (.int 1 :: _) _ _ _
      refine sw_if_ne (pc' := 8) (tgt := 15) rfl dX5_zip_5 (by decide +kernel) (fun c5 => ?_) (fun c5 => ?_)
      · refine sw_iconst (pc' := 16) (v := 1) rfl dX5_zip_15 (by decide +kernel) ?_
        refine sw_goto (tgt := 20) dX5_zip_16 (by decide +kernel) ?_
        refine sw_iload_n (pc' := 21) rfl dX5_zip_20 rfl ?_
        refine sw_iload_n (pc' := 22) rfl dX5_zip_21 rfl ?_
        refine sw_icmp_ne (pc' := 25) (tgt := 29) rfl dX5_zip_22 (by decide +kernel) (fun c22 => ?_) (fun c22 => ?_)
        · refine sw_iconst (pc' := 30) (v := 0) rfl dX5_zip_29 (by decide +kernel) ?_
          refine sw_aload_n (pc' := 31) rfl dX5_zip_30 rfl ?_
          refine sw_iload_n (pc' := 32) rfl dX5_zip_31 rfl ?_
          refine sw_V (M' := MX5_isUnmade) (d' := d - 1) (bc' := 0) (bs' := 0) (ci := 6) (as := [_]) dX5_zip_32 w_1313 ok_X5_isUnmade (q_isUnmade_x hM (no_x (N := 5) (by decide +kernel) q) (by omega)) hM.ob rfl (by omega) (Nat.le_of_ble_eq_true rfl) (Nat.zero_le _) (Nat.zero_le _) (fun E h' n' _ z => det_x z) (det_k ?_)
          refine sw_if_ne (pc' := 38) (tgt := 46) rfl dX5_zip_35 (by decide +kernel) (fun c35 => ?_) (fun c35 => ?_)
          · exact absurd c35 (by decide +kernel)
          · refine sw_aload_n (pc' := 39) rfl dX5_zip_38 rfl ?_
            refine sw_iload_n (pc' := 40) rfl dX5_zip_39 rfl ?_
            refine sw_V (M' := MX5_isUnmade) (d' := d - 1) (bc' := 0) (bs' := 0) (ci := 6) (as := [_]) dX5_zip_40 w_1313 ok_X5_isUnmade (q_isUnmade_k hM (k := j) (by omega) (hI.2.2.2.2.2.2.1 j (by omega)) (by omega)) hM.ob rfl (by omega) (Nat.le_of_ble_eq_true rfl) (Nat.zero_le _) (Nat.zero_le _) (fun E h' n' _ z => det_x z) (det_k ?_)
            refine sw_if_eq (pc' := 46) (tgt := 50) rfl dX5_zip_43 (by decide +kernel) (fun c43 => ?_) (fun c43 => ?_)
            · refine sw_iconst (pc' := 51) (v := 0) rfl dX5_zip_50 (by decide +kernel) ?_
              refine sw_V (M' := MX5_isStopped) (d' := d - 1) (bc' := 0) (bs' := 0) (ci := 6) (as := [_, _, _]) dX5_zip_51 w_1174 ok_X5_isStopped (q_isStopped (a := true) (b := false) (c := false) hM hA) hM.ob rfl (by omega) (Nat.le_of_ble_eq_true rfl) (Nat.zero_le _) (Nat.zero_le _) (fun E h' n' _ z => rp_x z) (rp_k (fun p51 p51ρ p51τ p51M p51A p51F => ?_))
              obtain ⟨Gp51, hGp51, eGp51⟩ := p51M.out
              show SW _ _ _ _ _ _ _ (.int 1 :: _) _ _ _
              refine sw_if_eq (pc' := 57) (tgt := 60) rfl dX5_zip_54 (by decide +kernel) (fun c54 => ?_) (fun c54 => ?_)
              · exact absurd c54 (by decide +kernel)
              · refine sw_ldcS (pc' := 59) rfl dX5_zip_57 (SRm 19 rfl) (by decide +kernel) ?_
                refine sw_ret (v := some _) ⟨dX5_zip_59, _, rfl, Or.inl ⟨_, rfl⟩⟩ ?_
                rw [opZip, onWk_x q]
                exact pt_x tc_1 p51M p51A p51F (Nat.le_refl _)
            · refine sw_iconst (pc' := 47) (v := 1) rfl dX5_zip_46 (by decide +kernel) ?_
              refine sw_goto (tgt := 51) dX5_zip_47 (by decide +kernel) ?_
              refine sw_V (M' := MX5_isStopped) (d' := d - 1) (bc' := 0) (bs' := 0) (ci := 6) (as := [_, _, _]) dX5_zip_51 w_1174 ok_X5_isStopped (q_isStopped (a := true) (b := false) (c := true) hM hA) hM.ob rfl (by omega) (Nat.le_of_ble_eq_true rfl) (Nat.zero_le _) (Nat.zero_le _) (fun E h' n' _ z => rp_x z) (rp_k (fun p51 p51ρ p51τ p51M p51A p51F => ?_))
              obtain ⟨Gp51, hGp51, eGp51⟩ := p51M.out
              show SW _ _ _ _ _ _ _ (.int 1 :: _) _ _ _
              refine sw_if_eq (pc' := 57) (tgt := 60) rfl dX5_zip_54 (by decide +kernel) (fun c54 => ?_) (fun c54 => ?_)
              · exact absurd c54 (by decide +kernel)
              · refine sw_ldcS (pc' := 59) rfl dX5_zip_57 (SRm 19 rfl) (by decide +kernel) ?_
                refine sw_ret (v := some _) ⟨dX5_zip_59, _, rfl, Or.inl ⟨_, rfl⟩⟩ ?_
                rw [opZip, onWk_x q]
                exact pt_x tc_1 p51M p51A p51F (Nat.le_refl _)
        · refine sw_iconst (pc' := 26) (v := 1) rfl dX5_zip_25 (by decide +kernel) ?_
          refine sw_goto (tgt := 30) dX5_zip_26 (by decide +kernel) ?_
          refine sw_aload_n (pc' := 31) rfl dX5_zip_30 rfl ?_
          refine sw_iload_n (pc' := 32) rfl dX5_zip_31 rfl ?_
          refine sw_V (M' := MX5_isUnmade) (d' := d - 1) (bc' := 0) (bs' := 0) (ci := 6) (as := [_]) dX5_zip_32 w_1313 ok_X5_isUnmade (q_isUnmade_x hM (no_x (N := 5) (by decide +kernel) q) (by omega)) hM.ob rfl (by omega) (Nat.le_of_ble_eq_true rfl) (Nat.zero_le _) (Nat.zero_le _) (fun E h' n' _ z => det_x z) (det_k ?_)
          refine sw_if_ne (pc' := 38) (tgt := 46) rfl dX5_zip_35 (by decide +kernel) (fun c35 => ?_) (fun c35 => ?_)
          · exact absurd c35 (by decide +kernel)
          · refine sw_aload_n (pc' := 39) rfl dX5_zip_38 rfl ?_
            refine sw_iload_n (pc' := 40) rfl dX5_zip_39 rfl ?_
            refine sw_V (M' := MX5_isUnmade) (d' := d - 1) (bc' := 0) (bs' := 0) (ci := 6) (as := [_]) dX5_zip_40 w_1313 ok_X5_isUnmade (q_isUnmade_k hM (k := j) (by omega) (hI.2.2.2.2.2.2.1 j (by omega)) (by omega)) hM.ob rfl (by omega) (Nat.le_of_ble_eq_true rfl) (Nat.zero_le _) (Nat.zero_le _) (fun E h' n' _ z => det_x z) (det_k ?_)
            refine sw_if_eq (pc' := 46) (tgt := 50) rfl dX5_zip_43 (by decide +kernel) (fun c43 => ?_) (fun c43 => ?_)
            · refine sw_iconst (pc' := 51) (v := 0) rfl dX5_zip_50 (by decide +kernel) ?_
              refine sw_V (M' := MX5_isStopped) (d' := d - 1) (bc' := 0) (bs' := 0) (ci := 6) (as := [_, _, _]) dX5_zip_51 w_1174 ok_X5_isStopped (q_isStopped (a := true) (b := true) (c := false) hM hA) hM.ob rfl (by omega) (Nat.le_of_ble_eq_true rfl) (Nat.zero_le _) (Nat.zero_le _) (fun E h' n' _ z => rp_x z) (rp_k (fun p51 p51ρ p51τ p51M p51A p51F => ?_))
              obtain ⟨Gp51, hGp51, eGp51⟩ := p51M.out
              show SW _ _ _ _ _ _ _ (.int 1 :: _) _ _ _
              refine sw_if_eq (pc' := 57) (tgt := 60) rfl dX5_zip_54 (by decide +kernel) (fun c54 => ?_) (fun c54 => ?_)
              · exact absurd c54 (by decide +kernel)
              · refine sw_ldcS (pc' := 59) rfl dX5_zip_57 (SRm 19 rfl) (by decide +kernel) ?_
                refine sw_ret (v := some _) ⟨dX5_zip_59, _, rfl, Or.inl ⟨_, rfl⟩⟩ ?_
                rw [opZip, onWk_x q]
                exact pt_x tc_1 p51M p51A p51F (Nat.le_refl _)
            · refine sw_iconst (pc' := 47) (v := 1) rfl dX5_zip_46 (by decide +kernel) ?_
              refine sw_goto (tgt := 51) dX5_zip_47 (by decide +kernel) ?_
              refine sw_V (M' := MX5_isStopped) (d' := d - 1) (bc' := 0) (bs' := 0) (ci := 6) (as := [_, _, _]) dX5_zip_51 w_1174 ok_X5_isStopped (q_isStopped (a := true) (b := true) (c := true) hM hA) hM.ob rfl (by omega) (Nat.le_of_ble_eq_true rfl) (Nat.zero_le _) (Nat.zero_le _) (fun E h' n' _ z => rp_x z) (rp_k (fun p51 p51ρ p51τ p51M p51A p51F => ?_))
              obtain ⟨Gp51, hGp51, eGp51⟩ := p51M.out
              show SW _ _ _ _ _ _ _ (.int 1 :: _) _ _ _
              refine sw_if_eq (pc' := 57) (tgt := 60) rfl dX5_zip_54 (by decide +kernel) (fun c54 => ?_) (fun c54 => ?_)
              · exact absurd c54 (by decide +kernel)
              · refine sw_ldcS (pc' := 59) rfl dX5_zip_57 (SRm 19 rfl) (by decide +kernel) ?_
                refine sw_ret (v := some _) ⟨dX5_zip_59, _, rfl, Or.inl ⟨_, rfl⟩⟩ ?_
                rw [opZip, onWk_x q]
                exact pt_x tc_1 p51M p51A p51F (Nat.le_refl _)
      · exact absurd c5 (by decide +kernel)
  have ovk := hI.2.2.2.2.2.2.1 k hk
  rcases idxN 6 (by decide +kernel) b with q2 | ⟨j, hj, rfl⟩
  · refine sw_aload_n (pc' := 1) rfl dX5_zip_0 rfl ?_
    refine sw_iload_n (pc' := 2) rfl dX5_zip_1 rfl ?_
    refine sw_S (M' := MX5_isNoWalk) (d' := d - 1) (bc' := 0) (bs' := 0) (as := [_]) dX5_zip_2 w_1306 ok_X5_isNoWalk (q_isNoWalk (by omega)) (by omega) (Nat.le_of_ble_eq_true rfl) (Nat.zero_le _) (Nat.zero_le _) (fun E h' n' _ z => det_x z) (det_k ?_)
    rw [show inB (nI k) 0 5 = true from inB_k (N := 5) (by omega) (by decide +kernel)]
    show SW _ _ _ _ _ _ _ (.int 0 :: _) _ _ _
    refine sw_if_ne (pc' := 8) (tgt := 15) rfl dX5_zip_5 (by decide +kernel) (fun c5 => ?_) (fun c5 => ?_)
    · exact absurd c5 (by decide +kernel)
    · refine sw_iload_n (pc' := 9) rfl dX5_zip_8 rfl ?_
      refine sw_S (M' := MX5_isNoWalk) (d' := d - 1) (bc' := 0) (bs' := 0) (as := [_]) dX5_zip_9 w_1306 ok_X5_isNoWalk (q_isNoWalk (by omega)) (by omega) (Nat.le_of_ble_eq_true rfl) (Nat.zero_le _) (Nat.zero_le _) (fun E h' n' _ z => det_x z) (det_k ?_)
      rw [show inB b 0 5 = false from no_x (N := 5) (by decide +kernel) q2]
      show SW _ _ _ _ _ _ _ (.int 1 :: _) _ _ _
      refine sw_if_eq (pc' := 15) (tgt := 19) rfl dX5_zip_12 (by decide +kernel) (fun c12 => ?_) (fun c12 => ?_)
      · exact absurd c12 (by decide +kernel)
      · refine sw_iconst (pc' := 16) (v := 1) rfl dX5_zip_15 (by decide +kernel) ?_
        refine sw_goto (tgt := 20) dX5_zip_16 (by decide +kernel) ?_
        refine sw_iload_n (pc' := 21) rfl dX5_zip_20 rfl ?_
        refine sw_iload_n (pc' := 22) rfl dX5_zip_21 rfl ?_
        refine sw_icmp_ne (pc' := 25) (tgt := 29) rfl dX5_zip_22 (by decide +kernel) (fun c22 => ?_) (fun c22 => ?_)
        · refine sw_iconst (pc' := 30) (v := 0) rfl dX5_zip_29 (by decide +kernel) ?_
          refine sw_aload_n (pc' := 31) rfl dX5_zip_30 rfl ?_
          refine sw_iload_n (pc' := 32) rfl dX5_zip_31 rfl ?_
          refine sw_V (M' := MX5_isUnmade) (d' := d - 1) (bc' := 0) (bs' := 0) (ci := 6) (as := [_]) dX5_zip_32 w_1313 ok_X5_isUnmade (q_isUnmade_k hM (k := k) (by omega) (hI.2.2.2.2.2.2.1 k (by omega)) (by omega)) hM.ob rfl (by omega) (Nat.le_of_ble_eq_true rfl) (Nat.zero_le _) (Nat.zero_le _) (fun E h' n' _ z => det_x z) (det_k ?_)
          refine sw_if_ne (pc' := 38) (tgt := 46) rfl dX5_zip_35 (by decide +kernel) (fun c35 => ?_) (fun c35 => ?_)
          · refine sw_iconst (pc' := 47) (v := 1) rfl dX5_zip_46 (by decide +kernel) ?_
            refine sw_goto (tgt := 51) dX5_zip_47 (by decide +kernel) ?_
            refine sw_V (M' := MX5_isStopped) (d' := d - 1) (bc' := 0) (bs' := 0) (ci := 6) (as := [_, _, _]) dX5_zip_51 w_1174 ok_X5_isStopped (q_isStopped (a := true) (b := false) (c := true) hM hA) hM.ob rfl (by omega) (Nat.le_of_ble_eq_true rfl) (Nat.zero_le _) (Nat.zero_le _) (fun E h' n' _ z => rp_x z) (rp_k (fun p51 p51ρ p51τ p51M p51A p51F => ?_))
            obtain ⟨Gp51, hGp51, eGp51⟩ := p51M.out
            show SW _ _ _ _ _ _ _ (.int 1 :: _) _ _ _
            refine sw_if_eq (pc' := 57) (tgt := 60) rfl dX5_zip_54 (by decide +kernel) (fun c54 => ?_) (fun c54 => ?_)
            · exact absurd c54 (by decide +kernel)
            · refine sw_ldcS (pc' := 59) rfl dX5_zip_57 (SRm 19 rfl) (by decide +kernel) ?_
              refine sw_ret (v := some _) ⟨dX5_zip_59, _, rfl, Or.inl ⟨_, rfl⟩⟩ ?_
              rw [opZip, onWk_k hk, onWk_x q2]
              exact pt_x tc_1 p51M p51A p51F (Nat.le_refl _)
          · refine sw_aload_n (pc' := 39) rfl dX5_zip_38 rfl ?_
            refine sw_iload_n (pc' := 40) rfl dX5_zip_39 rfl ?_
            refine sw_V (M' := MX5_isUnmade) (d' := d - 1) (bc' := 0) (bs' := 0) (ci := 6) (as := [_]) dX5_zip_40 w_1313 ok_X5_isUnmade (q_isUnmade_x hM (no_x (N := 5) (by decide +kernel) q2) (by omega)) hM.ob rfl (by omega) (Nat.le_of_ble_eq_true rfl) (Nat.zero_le _) (Nat.zero_le _) (fun E h' n' _ z => det_x z) (det_k ?_)
            refine sw_if_eq (pc' := 46) (tgt := 50) rfl dX5_zip_43 (by decide +kernel) (fun c43 => ?_) (fun c43 => ?_)
            · refine sw_iconst (pc' := 51) (v := 0) rfl dX5_zip_50 (by decide +kernel) ?_
              refine sw_V (M' := MX5_isStopped) (d' := d - 1) (bc' := 0) (bs' := 0) (ci := 6) (as := [_, _, _]) dX5_zip_51 w_1174 ok_X5_isStopped (q_isStopped (a := true) (b := false) (c := false) hM hA) hM.ob rfl (by omega) (Nat.le_of_ble_eq_true rfl) (Nat.zero_le _) (Nat.zero_le _) (fun E h' n' _ z => rp_x z) (rp_k (fun p51 p51ρ p51τ p51M p51A p51F => ?_))
              obtain ⟨Gp51, hGp51, eGp51⟩ := p51M.out
              show SW _ _ _ _ _ _ _ (.int 1 :: _) _ _ _
              refine sw_if_eq (pc' := 57) (tgt := 60) rfl dX5_zip_54 (by decide +kernel) (fun c54 => ?_) (fun c54 => ?_)
              · exact absurd c54 (by decide +kernel)
              · refine sw_ldcS (pc' := 59) rfl dX5_zip_57 (SRm 19 rfl) (by decide +kernel) ?_
                refine sw_ret (v := some _) ⟨dX5_zip_59, _, rfl, Or.inl ⟨_, rfl⟩⟩ ?_
                rw [opZip, onWk_k hk, onWk_x q2]
                exact pt_x tc_1 p51M p51A p51F (Nat.le_refl _)
            · exact absurd c43 (by decide +kernel)
        · refine sw_iconst (pc' := 26) (v := 1) rfl dX5_zip_25 (by decide +kernel) ?_
          refine sw_goto (tgt := 30) dX5_zip_26 (by decide +kernel) ?_
          refine sw_aload_n (pc' := 31) rfl dX5_zip_30 rfl ?_
          refine sw_iload_n (pc' := 32) rfl dX5_zip_31 rfl ?_
          refine sw_V (M' := MX5_isUnmade) (d' := d - 1) (bc' := 0) (bs' := 0) (ci := 6) (as := [_]) dX5_zip_32 w_1313 ok_X5_isUnmade (q_isUnmade_k hM (k := k) (by omega) (hI.2.2.2.2.2.2.1 k (by omega)) (by omega)) hM.ob rfl (by omega) (Nat.le_of_ble_eq_true rfl) (Nat.zero_le _) (Nat.zero_le _) (fun E h' n' _ z => det_x z) (det_k ?_)
          refine sw_if_ne (pc' := 38) (tgt := 46) rfl dX5_zip_35 (by decide +kernel) (fun c35 => ?_) (fun c35 => ?_)
          · refine sw_iconst (pc' := 47) (v := 1) rfl dX5_zip_46 (by decide +kernel) ?_
            refine sw_goto (tgt := 51) dX5_zip_47 (by decide +kernel) ?_
            refine sw_V (M' := MX5_isStopped) (d' := d - 1) (bc' := 0) (bs' := 0) (ci := 6) (as := [_, _, _]) dX5_zip_51 w_1174 ok_X5_isStopped (q_isStopped (a := true) (b := true) (c := true) hM hA) hM.ob rfl (by omega) (Nat.le_of_ble_eq_true rfl) (Nat.zero_le _) (Nat.zero_le _) (fun E h' n' _ z => rp_x z) (rp_k (fun p51 p51ρ p51τ p51M p51A p51F => ?_))
            obtain ⟨Gp51, hGp51, eGp51⟩ := p51M.out
            show SW _ _ _ _ _ _ _ (.int 1 :: _) _ _ _
            refine sw_if_eq (pc' := 57) (tgt := 60) rfl dX5_zip_54 (by decide +kernel) (fun c54 => ?_) (fun c54 => ?_)
            · exact absurd c54 (by decide +kernel)
            · refine sw_ldcS (pc' := 59) rfl dX5_zip_57 (SRm 19 rfl) (by decide +kernel) ?_
              refine sw_ret (v := some _) ⟨dX5_zip_59, _, rfl, Or.inl ⟨_, rfl⟩⟩ ?_
              rw [opZip, onWk_k hk, onWk_x q2]
              exact pt_x tc_1 p51M p51A p51F (Nat.le_refl _)
          · refine sw_aload_n (pc' := 39) rfl dX5_zip_38 rfl ?_
            refine sw_iload_n (pc' := 40) rfl dX5_zip_39 rfl ?_
            refine sw_V (M' := MX5_isUnmade) (d' := d - 1) (bc' := 0) (bs' := 0) (ci := 6) (as := [_]) dX5_zip_40 w_1313 ok_X5_isUnmade (q_isUnmade_x hM (no_x (N := 5) (by decide +kernel) q2) (by omega)) hM.ob rfl (by omega) (Nat.le_of_ble_eq_true rfl) (Nat.zero_le _) (Nat.zero_le _) (fun E h' n' _ z => det_x z) (det_k ?_)
            refine sw_if_eq (pc' := 46) (tgt := 50) rfl dX5_zip_43 (by decide +kernel) (fun c43 => ?_) (fun c43 => ?_)
            · refine sw_iconst (pc' := 51) (v := 0) rfl dX5_zip_50 (by decide +kernel) ?_
              refine sw_V (M' := MX5_isStopped) (d' := d - 1) (bc' := 0) (bs' := 0) (ci := 6) (as := [_, _, _]) dX5_zip_51 w_1174 ok_X5_isStopped (q_isStopped (a := true) (b := true) (c := false) hM hA) hM.ob rfl (by omega) (Nat.le_of_ble_eq_true rfl) (Nat.zero_le _) (Nat.zero_le _) (fun E h' n' _ z => rp_x z) (rp_k (fun p51 p51ρ p51τ p51M p51A p51F => ?_))
              obtain ⟨Gp51, hGp51, eGp51⟩ := p51M.out
              show SW _ _ _ _ _ _ _ (.int 1 :: _) _ _ _
              refine sw_if_eq (pc' := 57) (tgt := 60) rfl dX5_zip_54 (by decide +kernel) (fun c54 => ?_) (fun c54 => ?_)
              · exact absurd c54 (by decide +kernel)
              · refine sw_ldcS (pc' := 59) rfl dX5_zip_57 (SRm 19 rfl) (by decide +kernel) ?_
                refine sw_ret (v := some _) ⟨dX5_zip_59, _, rfl, Or.inl ⟨_, rfl⟩⟩ ?_
                rw [opZip, onWk_k hk, onWk_x q2]
                exact pt_x tc_1 p51M p51A p51F (Nat.le_refl _)
            · exact absurd c43 (by decide +kernel)
  have ovj := hI.2.2.2.2.2.2.1 j hj
  rcases Classical.em (nI k = nI j) with qe | qe
  · refine sw_aload_n (pc' := 1) rfl dX5_zip_0 rfl ?_
    refine sw_iload_n (pc' := 2) rfl dX5_zip_1 rfl ?_
    refine sw_S (M' := MX5_isNoWalk) (d' := d - 1) (bc' := 0) (bs' := 0) (as := [_]) dX5_zip_2 w_1306 ok_X5_isNoWalk (q_isNoWalk (by omega)) (by omega) (Nat.le_of_ble_eq_true rfl) (Nat.zero_le _) (Nat.zero_le _) (fun E h' n' _ z => det_x z) (det_k ?_)
    rw [show inB (nI k) 0 5 = true from inB_k (N := 5) (by omega) (by decide +kernel)]
    show SW _ _ _ _ _ _ _ (.int 0 :: _) _ _ _
    refine sw_if_ne (pc' := 8) (tgt := 15) rfl dX5_zip_5 (by decide +kernel) (fun c5 => ?_) (fun c5 => ?_)
    · exact absurd c5 (by decide +kernel)
    · refine sw_iload_n (pc' := 9) rfl dX5_zip_8 rfl ?_
      refine sw_S (M' := MX5_isNoWalk) (d' := d - 1) (bc' := 0) (bs' := 0) (as := [_]) dX5_zip_9 w_1306 ok_X5_isNoWalk (q_isNoWalk (by omega)) (by omega) (Nat.le_of_ble_eq_true rfl) (Nat.zero_le _) (Nat.zero_le _) (fun E h' n' _ z => det_x z) (det_k ?_)
      rw [show inB (nI j) 0 5 = true from inB_k (N := 5) (by omega) (by decide +kernel)]
      show SW _ _ _ _ _ _ _ (.int 0 :: _) _ _ _
      refine sw_if_eq (pc' := 15) (tgt := 19) rfl dX5_zip_12 (by decide +kernel) (fun c12 => ?_) (fun c12 => ?_)
      · refine sw_iconst (pc' := 20) (v := 0) rfl dX5_zip_19 (by decide +kernel) ?_
        refine sw_iload_n (pc' := 21) rfl dX5_zip_20 rfl ?_
        refine sw_iload_n (pc' := 22) rfl dX5_zip_21 rfl ?_
        refine sw_icmp_ne (pc' := 25) (tgt := 29) rfl dX5_zip_22 (by decide +kernel) (fun c22 => ?_) (fun c22 => ?_)
        · exact absurd qe c22
        · refine sw_iconst (pc' := 26) (v := 1) rfl dX5_zip_25 (by decide +kernel) ?_
          refine sw_goto (tgt := 30) dX5_zip_26 (by decide +kernel) ?_
          refine sw_aload_n (pc' := 31) rfl dX5_zip_30 rfl ?_
          refine sw_iload_n (pc' := 32) rfl dX5_zip_31 rfl ?_
          refine sw_V (M' := MX5_isUnmade) (d' := d - 1) (bc' := 0) (bs' := 0) (ci := 6) (as := [_]) dX5_zip_32 w_1313 ok_X5_isUnmade (q_isUnmade_k hM (k := k) (by omega) (hI.2.2.2.2.2.2.1 k (by omega)) (by omega)) hM.ob rfl (by omega) (Nat.le_of_ble_eq_true rfl) (Nat.zero_le _) (Nat.zero_le _) (fun E h' n' _ z => det_x z) (det_k ?_)
          refine sw_if_ne (pc' := 38) (tgt := 46) rfl dX5_zip_35 (by decide +kernel) (fun c35 => ?_) (fun c35 => ?_)
          · refine sw_iconst (pc' := 47) (v := 1) rfl dX5_zip_46 (by decide +kernel) ?_
            refine sw_goto (tgt := 51) dX5_zip_47 (by decide +kernel) ?_
            refine sw_V (M' := MX5_isStopped) (d' := d - 1) (bc' := 0) (bs' := 0) (ci := 6) (as := [_, _, _]) dX5_zip_51 w_1174 ok_X5_isStopped (q_isStopped (a := false) (b := true) (c := true) hM hA) hM.ob rfl (by omega) (Nat.le_of_ble_eq_true rfl) (Nat.zero_le _) (Nat.zero_le _) (fun E h' n' _ z => rp_x z) (rp_k (fun p51 p51ρ p51τ p51M p51A p51F => ?_))
            obtain ⟨Gp51, hGp51, eGp51⟩ := p51M.out
            show SW _ _ _ _ _ _ _ (.int 1 :: _) _ _ _
            refine sw_if_eq (pc' := 57) (tgt := 60) rfl dX5_zip_54 (by decide +kernel) (fun c54 => ?_) (fun c54 => ?_)
            · exact absurd c54 (by decide +kernel)
            · refine sw_ldcS (pc' := 59) rfl dX5_zip_57 (SRm 19 rfl) (by decide +kernel) ?_
              refine sw_ret (v := some _) ⟨dX5_zip_59, _, rfl, Or.inl ⟨_, rfl⟩⟩ ?_
              rw [opZip, onWk_k hk, onWk_k hj, if_pos qe]
              exact pt_x (tc_2 sAI) p51M p51A p51F (Nat.le_refl _)
          · refine sw_aload_n (pc' := 39) rfl dX5_zip_38 rfl ?_
            refine sw_iload_n (pc' := 40) rfl dX5_zip_39 rfl ?_
            refine sw_V (M' := MX5_isUnmade) (d' := d - 1) (bc' := 0) (bs' := 0) (ci := 6) (as := [_]) dX5_zip_40 w_1313 ok_X5_isUnmade (q_isUnmade_k hM (k := j) (by omega) (hI.2.2.2.2.2.2.1 j (by omega)) (by omega)) hM.ob rfl (by omega) (Nat.le_of_ble_eq_true rfl) (Nat.zero_le _) (Nat.zero_le _) (fun E h' n' _ z => det_x z) (det_k ?_)
            refine sw_if_eq (pc' := 46) (tgt := 50) rfl dX5_zip_43 (by decide +kernel) (fun c43 => ?_) (fun c43 => ?_)
            · refine sw_iconst (pc' := 51) (v := 0) rfl dX5_zip_50 (by decide +kernel) ?_
              refine sw_V (M' := MX5_isStopped) (d' := d - 1) (bc' := 0) (bs' := 0) (ci := 6) (as := [_, _, _]) dX5_zip_51 w_1174 ok_X5_isStopped (q_isStopped (a := false) (b := true) (c := false) hM hA) hM.ob rfl (by omega) (Nat.le_of_ble_eq_true rfl) (Nat.zero_le _) (Nat.zero_le _) (fun E h' n' _ z => rp_x z) (rp_k (fun p51 p51ρ p51τ p51M p51A p51F => ?_))
              obtain ⟨Gp51, hGp51, eGp51⟩ := p51M.out
              show SW _ _ _ _ _ _ _ (.int 1 :: _) _ _ _
              refine sw_if_eq (pc' := 57) (tgt := 60) rfl dX5_zip_54 (by decide +kernel) (fun c54 => ?_) (fun c54 => ?_)
              · exact absurd c54 (by decide +kernel)
              · refine sw_ldcS (pc' := 59) rfl dX5_zip_57 (SRm 19 rfl) (by decide +kernel) ?_
                refine sw_ret (v := some _) ⟨dX5_zip_59, _, rfl, Or.inl ⟨_, rfl⟩⟩ ?_
                rw [opZip, onWk_k hk, onWk_k hj, if_pos qe]
                exact pt_x (tc_2 sAI) p51M p51A p51F (Nat.le_refl _)
            · refine sw_iconst (pc' := 47) (v := 1) rfl dX5_zip_46 (by decide +kernel) ?_
              refine sw_goto (tgt := 51) dX5_zip_47 (by decide +kernel) ?_
              refine sw_V (M' := MX5_isStopped) (d' := d - 1) (bc' := 0) (bs' := 0) (ci := 6) (as := [_, _, _]) dX5_zip_51 w_1174 ok_X5_isStopped (q_isStopped (a := false) (b := true) (c := true) hM hA) hM.ob rfl (by omega) (Nat.le_of_ble_eq_true rfl) (Nat.zero_le _) (Nat.zero_le _) (fun E h' n' _ z => rp_x z) (rp_k (fun p51 p51ρ p51τ p51M p51A p51F => ?_))
              obtain ⟨Gp51, hGp51, eGp51⟩ := p51M.out
              show SW _ _ _ _ _ _ _ (.int 1 :: _) _ _ _
              refine sw_if_eq (pc' := 57) (tgt := 60) rfl dX5_zip_54 (by decide +kernel) (fun c54 => ?_) (fun c54 => ?_)
              · exact absurd c54 (by decide +kernel)
              · refine sw_ldcS (pc' := 59) rfl dX5_zip_57 (SRm 19 rfl) (by decide +kernel) ?_
                refine sw_ret (v := some _) ⟨dX5_zip_59, _, rfl, Or.inl ⟨_, rfl⟩⟩ ?_
                rw [opZip, onWk_k hk, onWk_k hj, if_pos qe]
                exact pt_x (tc_2 sAI) p51M p51A p51F (Nat.le_refl _)
      · exact absurd c12 (by decide +kernel)
  rcases Classical.em ((σ.2.2.2.2.1 k).1 = false) with qk | qk
  · refine sw_aload_n (pc' := 1) rfl dX5_zip_0 rfl ?_
    refine sw_iload_n (pc' := 2) rfl dX5_zip_1 rfl ?_
    refine sw_S (M' := MX5_isNoWalk) (d' := d - 1) (bc' := 0) (bs' := 0) (as := [_]) dX5_zip_2 w_1306 ok_X5_isNoWalk (q_isNoWalk (by omega)) (by omega) (Nat.le_of_ble_eq_true rfl) (Nat.zero_le _) (Nat.zero_le _) (fun E h' n' _ z => det_x z) (det_k ?_)
    rw [show inB (nI k) 0 5 = true from inB_k (N := 5) (by omega) (by decide +kernel)]
    show SW _ _ _ _ _ _ _ (.int 0 :: _) _ _ _
    refine sw_if_ne (pc' := 8) (tgt := 15) rfl dX5_zip_5 (by decide +kernel) (fun c5 => ?_) (fun c5 => ?_)
    · exact absurd c5 (by decide +kernel)
    · refine sw_iload_n (pc' := 9) rfl dX5_zip_8 rfl ?_
      refine sw_S (M' := MX5_isNoWalk) (d' := d - 1) (bc' := 0) (bs' := 0) (as := [_]) dX5_zip_9 w_1306 ok_X5_isNoWalk (q_isNoWalk (by omega)) (by omega) (Nat.le_of_ble_eq_true rfl) (Nat.zero_le _) (Nat.zero_le _) (fun E h' n' _ z => det_x z) (det_k ?_)
      rw [show inB (nI j) 0 5 = true from inB_k (N := 5) (by omega) (by decide +kernel)]
      show SW _ _ _ _ _ _ _ (.int 0 :: _) _ _ _
      refine sw_if_eq (pc' := 15) (tgt := 19) rfl dX5_zip_12 (by decide +kernel) (fun c12 => ?_) (fun c12 => ?_)
      · refine sw_iconst (pc' := 20) (v := 0) rfl dX5_zip_19 (by decide +kernel) ?_
        refine sw_iload_n (pc' := 21) rfl dX5_zip_20 rfl ?_
        refine sw_iload_n (pc' := 22) rfl dX5_zip_21 rfl ?_
        refine sw_icmp_ne (pc' := 25) (tgt := 29) rfl dX5_zip_22 (by decide +kernel) (fun c22 => ?_) (fun c22 => ?_)
        · refine sw_iconst (pc' := 30) (v := 0) rfl dX5_zip_29 (by decide +kernel) ?_
          refine sw_aload_n (pc' := 31) rfl dX5_zip_30 rfl ?_
          refine sw_iload_n (pc' := 32) rfl dX5_zip_31 rfl ?_
          refine sw_V (M' := MX5_isUnmade) (d' := d - 1) (bc' := 0) (bs' := 0) (ci := 6) (as := [_]) dX5_zip_32 w_1313 ok_X5_isUnmade (q_isUnmade_k hM (k := k) (by omega) (hI.2.2.2.2.2.2.1 k (by omega)) (by omega)) hM.ob rfl (by omega) (Nat.le_of_ble_eq_true rfl) (Nat.zero_le _) (Nat.zero_le _) (fun E h' n' _ z => det_x z) (det_k ?_)
          rw [show (σ.2.2.2.2.1 k).1 = false from qk]
          show SW _ _ _ _ _ _ _ (.int 1 :: _) _ _ _
          refine sw_if_ne (pc' := 38) (tgt := 46) rfl dX5_zip_35 (by decide +kernel) (fun c35 => ?_) (fun c35 => ?_)
          · refine sw_iconst (pc' := 47) (v := 1) rfl dX5_zip_46 (by decide +kernel) ?_
            refine sw_goto (tgt := 51) dX5_zip_47 (by decide +kernel) ?_
            refine sw_V (M' := MX5_isStopped) (d' := d - 1) (bc' := 0) (bs' := 0) (ci := 6) (as := [_, _, _]) dX5_zip_51 w_1174 ok_X5_isStopped (q_isStopped (a := false) (b := false) (c := true) hM hA) hM.ob rfl (by omega) (Nat.le_of_ble_eq_true rfl) (Nat.zero_le _) (Nat.zero_le _) (fun E h' n' _ z => rp_x z) (rp_k (fun p51 p51ρ p51τ p51M p51A p51F => ?_))
            obtain ⟨Gp51, hGp51, eGp51⟩ := p51M.out
            show SW _ _ _ _ _ _ _ (.int 1 :: _) _ _ _
            refine sw_if_eq (pc' := 57) (tgt := 60) rfl dX5_zip_54 (by decide +kernel) (fun c54 => ?_) (fun c54 => ?_)
            · exact absurd c54 (by decide +kernel)
            · refine sw_ldcS (pc' := 59) rfl dX5_zip_57 (SRm 19 rfl) (by decide +kernel) ?_
              refine sw_ret (v := some _) ⟨dX5_zip_59, _, rfl, Or.inl ⟨_, rfl⟩⟩ ?_
              rw [opZip, onWk_k hk, onWk_k hj, if_neg qe, if_pos qk]
              exact pt_x (tc_3 sSI sSA) p51M p51A p51F (Nat.le_refl _)
          · exact absurd c35 (by decide +kernel)
        · exact absurd c22 qe
      · exact absurd c12 (by decide +kernel)
  rcases Classical.em ((σ.2.2.2.2.1 j).1 = false) with qj | qj
  · refine sw_aload_n (pc' := 1) rfl dX5_zip_0 rfl ?_
    refine sw_iload_n (pc' := 2) rfl dX5_zip_1 rfl ?_
    refine sw_S (M' := MX5_isNoWalk) (d' := d - 1) (bc' := 0) (bs' := 0) (as := [_]) dX5_zip_2 w_1306 ok_X5_isNoWalk (q_isNoWalk (by omega)) (by omega) (Nat.le_of_ble_eq_true rfl) (Nat.zero_le _) (Nat.zero_le _) (fun E h' n' _ z => det_x z) (det_k ?_)
    rw [show inB (nI k) 0 5 = true from inB_k (N := 5) (by omega) (by decide +kernel)]
    show SW _ _ _ _ _ _ _ (.int 0 :: _) _ _ _
    refine sw_if_ne (pc' := 8) (tgt := 15) rfl dX5_zip_5 (by decide +kernel) (fun c5 => ?_) (fun c5 => ?_)
    · exact absurd c5 (by decide +kernel)
    · refine sw_iload_n (pc' := 9) rfl dX5_zip_8 rfl ?_
      refine sw_S (M' := MX5_isNoWalk) (d' := d - 1) (bc' := 0) (bs' := 0) (as := [_]) dX5_zip_9 w_1306 ok_X5_isNoWalk (q_isNoWalk (by omega)) (by omega) (Nat.le_of_ble_eq_true rfl) (Nat.zero_le _) (Nat.zero_le _) (fun E h' n' _ z => det_x z) (det_k ?_)
      rw [show inB (nI j) 0 5 = true from inB_k (N := 5) (by omega) (by decide +kernel)]
      show SW _ _ _ _ _ _ _ (.int 0 :: _) _ _ _
      refine sw_if_eq (pc' := 15) (tgt := 19) rfl dX5_zip_12 (by decide +kernel) (fun c12 => ?_) (fun c12 => ?_)
      · refine sw_iconst (pc' := 20) (v := 0) rfl dX5_zip_19 (by decide +kernel) ?_
        refine sw_iload_n (pc' := 21) rfl dX5_zip_20 rfl ?_
        refine sw_iload_n (pc' := 22) rfl dX5_zip_21 rfl ?_
        refine sw_icmp_ne (pc' := 25) (tgt := 29) rfl dX5_zip_22 (by decide +kernel) (fun c22 => ?_) (fun c22 => ?_)
        · refine sw_iconst (pc' := 30) (v := 0) rfl dX5_zip_29 (by decide +kernel) ?_
          refine sw_aload_n (pc' := 31) rfl dX5_zip_30 rfl ?_
          refine sw_iload_n (pc' := 32) rfl dX5_zip_31 rfl ?_
          refine sw_V (M' := MX5_isUnmade) (d' := d - 1) (bc' := 0) (bs' := 0) (ci := 6) (as := [_]) dX5_zip_32 w_1313 ok_X5_isUnmade (q_isUnmade_k hM (k := k) (by omega) (hI.2.2.2.2.2.2.1 k (by omega)) (by omega)) hM.ob rfl (by omega) (Nat.le_of_ble_eq_true rfl) (Nat.zero_le _) (Nat.zero_le _) (fun E h' n' _ z => det_x z) (det_k ?_)
          rw [show (σ.2.2.2.2.1 k).1 = true from (mkT qk)]
          show SW _ _ _ _ _ _ _ (.int 0 :: _) _ _ _
          refine sw_if_ne (pc' := 38) (tgt := 46) rfl dX5_zip_35 (by decide +kernel) (fun c35 => ?_) (fun c35 => ?_)
          · exact absurd c35 (by decide +kernel)
          · refine sw_aload_n (pc' := 39) rfl dX5_zip_38 rfl ?_
            refine sw_iload_n (pc' := 40) rfl dX5_zip_39 rfl ?_
            refine sw_V (M' := MX5_isUnmade) (d' := d - 1) (bc' := 0) (bs' := 0) (ci := 6) (as := [_]) dX5_zip_40 w_1313 ok_X5_isUnmade (q_isUnmade_k hM (k := j) (by omega) (hI.2.2.2.2.2.2.1 j (by omega)) (by omega)) hM.ob rfl (by omega) (Nat.le_of_ble_eq_true rfl) (Nat.zero_le _) (Nat.zero_le _) (fun E h' n' _ z => det_x z) (det_k ?_)
            rw [show (σ.2.2.2.2.1 j).1 = false from qj]
            show SW _ _ _ _ _ _ _ (.int 1 :: _) _ _ _
            refine sw_if_eq (pc' := 46) (tgt := 50) rfl dX5_zip_43 (by decide +kernel) (fun c43 => ?_) (fun c43 => ?_)
            · exact absurd c43 (by decide +kernel)
            · refine sw_iconst (pc' := 47) (v := 1) rfl dX5_zip_46 (by decide +kernel) ?_
              refine sw_goto (tgt := 51) dX5_zip_47 (by decide +kernel) ?_
              refine sw_V (M' := MX5_isStopped) (d' := d - 1) (bc' := 0) (bs' := 0) (ci := 6) (as := [_, _, _]) dX5_zip_51 w_1174 ok_X5_isStopped (q_isStopped (a := false) (b := false) (c := true) hM hA) hM.ob rfl (by omega) (Nat.le_of_ble_eq_true rfl) (Nat.zero_le _) (Nat.zero_le _) (fun E h' n' _ z => rp_x z) (rp_k (fun p51 p51ρ p51τ p51M p51A p51F => ?_))
              obtain ⟨Gp51, hGp51, eGp51⟩ := p51M.out
              show SW _ _ _ _ _ _ _ (.int 1 :: _) _ _ _
              refine sw_if_eq (pc' := 57) (tgt := 60) rfl dX5_zip_54 (by decide +kernel) (fun c54 => ?_) (fun c54 => ?_)
              · exact absurd c54 (by decide +kernel)
              · refine sw_ldcS (pc' := 59) rfl dX5_zip_57 (SRm 19 rfl) (by decide +kernel) ?_
                refine sw_ret (v := some _) ⟨dX5_zip_59, _, rfl, Or.inl ⟨_, rfl⟩⟩ ?_
                rw [opZip, onWk_k hk, onWk_k hj, if_neg qe, if_neg qk, if_pos qj]
                exact pt_x (tc_3 sSI sSA) p51M p51A p51F (Nat.le_refl _)
        · exact absurd c22 qe
      · exact absurd c12 (by decide +kernel)
  refine sw_aload_n (pc' := 1) rfl dX5_zip_0 rfl ?_
  refine sw_iload_n (pc' := 2) rfl dX5_zip_1 rfl ?_
  refine sw_S (M' := MX5_isNoWalk) (d' := d - 1) (bc' := 0) (bs' := 0) (as := [_]) dX5_zip_2 w_1306 ok_X5_isNoWalk (q_isNoWalk (by omega)) (by omega) (Nat.le_of_ble_eq_true rfl) (Nat.zero_le _) (Nat.zero_le _) (fun E h' n' _ z => det_x z) (det_k ?_)
  rw [show inB (nI k) 0 5 = true from inB_k (N := 5) (by omega) (by decide +kernel)]
  show SW _ _ _ _ _ _ _ (.int 0 :: _) _ _ _
  refine sw_if_ne (pc' := 8) (tgt := 15) rfl dX5_zip_5 (by decide +kernel) (fun c5 => ?_) (fun c5 => ?_)
  · exact absurd c5 (by decide +kernel)
  · refine sw_iload_n (pc' := 9) rfl dX5_zip_8 rfl ?_
    refine sw_S (M' := MX5_isNoWalk) (d' := d - 1) (bc' := 0) (bs' := 0) (as := [_]) dX5_zip_9 w_1306 ok_X5_isNoWalk (q_isNoWalk (by omega)) (by omega) (Nat.le_of_ble_eq_true rfl) (Nat.zero_le _) (Nat.zero_le _) (fun E h' n' _ z => det_x z) (det_k ?_)
    rw [show inB (nI j) 0 5 = true from inB_k (N := 5) (by omega) (by decide +kernel)]
    show SW _ _ _ _ _ _ _ (.int 0 :: _) _ _ _
    refine sw_if_eq (pc' := 15) (tgt := 19) rfl dX5_zip_12 (by decide +kernel) (fun c12 => ?_) (fun c12 => ?_)
    · refine sw_iconst (pc' := 20) (v := 0) rfl dX5_zip_19 (by decide +kernel) ?_
      refine sw_iload_n (pc' := 21) rfl dX5_zip_20 rfl ?_
      refine sw_iload_n (pc' := 22) rfl dX5_zip_21 rfl ?_
      refine sw_icmp_ne (pc' := 25) (tgt := 29) rfl dX5_zip_22 (by decide +kernel) (fun c22 => ?_) (fun c22 => ?_)
      · refine sw_iconst (pc' := 30) (v := 0) rfl dX5_zip_29 (by decide +kernel) ?_
        refine sw_aload_n (pc' := 31) rfl dX5_zip_30 rfl ?_
        refine sw_iload_n (pc' := 32) rfl dX5_zip_31 rfl ?_
        refine sw_V (M' := MX5_isUnmade) (d' := d - 1) (bc' := 0) (bs' := 0) (ci := 6) (as := [_]) dX5_zip_32 w_1313 ok_X5_isUnmade (q_isUnmade_k hM (k := k) (by omega) (hI.2.2.2.2.2.2.1 k (by omega)) (by omega)) hM.ob rfl (by omega) (Nat.le_of_ble_eq_true rfl) (Nat.zero_le _) (Nat.zero_le _) (fun E h' n' _ z => det_x z) (det_k ?_)
        rw [show (σ.2.2.2.2.1 k).1 = true from (mkT qk)]
        show SW _ _ _ _ _ _ _ (.int 0 :: _) _ _ _
        refine sw_if_ne (pc' := 38) (tgt := 46) rfl dX5_zip_35 (by decide +kernel) (fun c35 => ?_) (fun c35 => ?_)
        · exact absurd c35 (by decide +kernel)
        · refine sw_aload_n (pc' := 39) rfl dX5_zip_38 rfl ?_
          refine sw_iload_n (pc' := 40) rfl dX5_zip_39 rfl ?_
          refine sw_V (M' := MX5_isUnmade) (d' := d - 1) (bc' := 0) (bs' := 0) (ci := 6) (as := [_]) dX5_zip_40 w_1313 ok_X5_isUnmade (q_isUnmade_k hM (k := j) (by omega) (hI.2.2.2.2.2.2.1 j (by omega)) (by omega)) hM.ob rfl (by omega) (Nat.le_of_ble_eq_true rfl) (Nat.zero_le _) (Nat.zero_le _) (fun E h' n' _ z => det_x z) (det_k ?_)
          rw [show (σ.2.2.2.2.1 j).1 = true from (mkT qj)]
          show SW _ _ _ _ _ _ _ (.int 0 :: _) _ _ _
          refine sw_if_eq (pc' := 46) (tgt := 50) rfl dX5_zip_43 (by decide +kernel) (fun c43 => ?_) (fun c43 => ?_)
          · refine sw_iconst (pc' := 51) (v := 0) rfl dX5_zip_50 (by decide +kernel) ?_
            refine sw_V (M' := MX5_isStopped) (d' := d - 1) (bc' := 0) (bs' := 0) (ci := 6) (as := [_, _, _]) dX5_zip_51 w_1174 ok_X5_isStopped (q_isStopped (a := false) (b := false) (c := false) hM hA) hM.ob rfl (by omega) (Nat.le_of_ble_eq_true rfl) (Nat.zero_le _) (Nat.zero_le _) (fun E h' n' _ z => rp_x z) (rp_k (fun p51 p51ρ p51τ p51M p51A p51F => ?_))
            obtain ⟨Gp51, hGp51, eGp51⟩ := p51M.out
            show SW _ _ _ _ _ _ _ (.int 0 :: _) _ _ _
            refine sw_if_eq (pc' := 57) (tgt := 60) rfl dX5_zip_54 (by decide +kernel) (fun c54 => ?_) (fun c54 => ?_)
            · refine sw_aload_n (pc' := 61) rfl dX5_zip_60 rfl ?_
              refine sw_iload_n (pc' := 62) rfl dX5_zip_61 rfl ?_
              refine sw_V (M' := MX5_isStale) (d' := d - 1) (bc' := 0) (bs' := 0) (ci := 6) (as := [_]) dX5_zip_62 w_1317 ok_X5_isStale (q_isStale p51M (k := k) (by omega) (mkT qk) (hI.2.2.2.2.2.2.1 k (by omega))) p51M.ob rfl (by omega) (Nat.le_of_ble_eq_true rfl) (Nat.zero_le _) (Nat.zero_le _) (fun E h' n' _ z => det_x z) (det_k ?_)
              refine sw_if_ne (pc' := 68) (tgt := 76) rfl dX5_zip_65 (by decide +kernel) (fun c65 => ?_) (fun c65 => ?_)
              · refine sw_aload_n (pc' := 77) rfl dX5_zip_76 rfl ?_
                refine sw_V (M' := MX5_noText) (d' := d - 1) (bc' := 0) (bs' := 0) (ci := 6) (as := []) dX5_zip_77 w_1342 ok_X5_noText (q_noText p51M p51A) p51M.ob rfl (by omega) (Nat.le_of_ble_eq_true rfl) (Nat.zero_le _) (Nat.zero_le _) (fun E h' n' _ z => rp_x z) (rp_k (fun p77 p77ρ p77τ p77M p77A p77F => ?_))
                obtain ⟨Gp77, hGp77, eGp77⟩ := p77M.out
                refine sw_ret (v := some _) ⟨dX5_zip_80, _, rfl, Or.inl ⟨_, rfl⟩⟩ ?_
                rw [opZip, onWk_k hk, onWk_k hj, if_neg qe, if_neg qk, if_neg qj, if_pos (Or.inl (bI_1 c65))]
                exact pt_k p77M p77A (p51F.tr p77F (Nat.le_refl _)) (Nat.le_refl _)
              · refine sw_aload_n (pc' := 69) rfl dX5_zip_68 rfl ?_
                refine sw_iload_n (pc' := 70) rfl dX5_zip_69 rfl ?_
                refine sw_V (M' := MX5_isStale) (d' := d - 1) (bc' := 0) (bs' := 0) (ci := 6) (as := [_]) dX5_zip_70 w_1317 ok_X5_isStale (q_isStale p51M (k := j) (by omega) (mkT qj) (hI.2.2.2.2.2.2.1 j (by omega))) p51M.ob rfl (by omega) (Nat.le_of_ble_eq_true rfl) (Nat.zero_le _) (Nat.zero_le _) (fun E h' n' _ z => det_x z) (det_k ?_)
                refine sw_if_eq (pc' := 76) (tgt := 81) rfl dX5_zip_73 (by decide +kernel) (fun c73 => ?_) (fun c73 => ?_)
                · refine sw_ldcS (pc' := 83) rfl dX5_zip_81 (SRm 19 rfl) (by decide +kernel) ?_
                  refine sw_astore_n (pc' := 84) (lv' := [(3, _), (0, _), (1, _), (2, _)]) rfl dX5_zip_83 (by decide +kernel) rfl ?_
                  rw [opZip, onWk_k hk, onWk_k hj, if_neg qe, if_neg qk, if_neg qj, if_neg (fun g => g.elim (fun g => Bool.noConfusion ((bI_0 c65).symm.trans g)) (fun g => Bool.noConfusion ((bI_0 c73).symm.trans g)))]
                  have z12 : zc 12 = 3252 := rfl
                  have h12 : ∀ A : Nat, wAh σ k = nI A → σ.2.1 (wO σ k) ≤ A + 12 := fun A _ => by have := hI.1 _ ovk; omega
                  refine SW.post (SW.pick [0, 1, 2, 3] rfl (ql_zip (N := N) (hT.fr (fun i hi => p51F i (by omega) (by omega))) hN hk hj (fun e => qe (by rw [e])) hn (by omega) 12 0 _ _ n 48 0 p51 σ rfl ⟨_, _, p51M, p51A⟩ hV (mkT qk) (mkT qj) (bI_0 c65) (bI_0 c73) h12 (Nat.le_refl _) ((hT.fr (fun i hi => p51F i (by omega) (by omega))).2.2.1.n (by omega)) (by omega) FrM.rf (by omega) (by omega))) (fun r h' n' z => ⟨z.1, z.2.1, z.2.2.1, p51F.tr z.2.2.2 (Nat.le_refl _)⟩)
                · refine sw_aload_n (pc' := 77) rfl dX5_zip_76 rfl ?_
                  refine sw_V (M' := MX5_noText) (d' := d - 1) (bc' := 0) (bs' := 0) (ci := 6) (as := []) dX5_zip_77 w_1342 ok_X5_noText (q_noText p51M p51A) p51M.ob rfl (by omega) (Nat.le_of_ble_eq_true rfl) (Nat.zero_le _) (Nat.zero_le _) (fun E h' n' _ z => rp_x z) (rp_k (fun p77 p77ρ p77τ p77M p77A p77F => ?_))
                  obtain ⟨Gp77, hGp77, eGp77⟩ := p77M.out
                  refine sw_ret (v := some _) ⟨dX5_zip_80, _, rfl, Or.inl ⟨_, rfl⟩⟩ ?_
                  rw [opZip, onWk_k hk, onWk_k hj, if_neg qe, if_neg qk, if_neg qj, if_pos (Or.inr (bI_1 c73))]
                  exact pt_k p77M p77A (p51F.tr p77F (Nat.le_refl _)) (Nat.le_refl _)
            · exact absurd c54 (by decide +kernel)
          · exact absurd c43 (by decide +kernel)
      · exact absurd c22 qe
    · exact absurd c12 (by decide +kernel)
end
