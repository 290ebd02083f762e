/-! Strings: a comparison of references, whether it is a String, a cast to String -/
section
variable {SR : SRT} {M : MI} {d bc bs pc pc' tgt idx n : Nat} {lv : List (Nat × Value)} {st : List Value} {h : AH} {Post : ARes → AH → Nat → Prop}
theorem sw_acmpA {i j : Nat} {off : Int} (hp : pc + 3 = pc') (hdg : decode M.2.1 pc = .ok (.if_acmp .ne off, 3)) (ht : (pc : Int) + off = (tgt : Int)) (kt : SW SR M d bc bs tgt lv st h n Post) (kf : SW SR M d bc bs pc' lv st h n Post) : SW SR M d bc bs pc lv (.ref j :: .ref i :: st) h n Post := by
  subst hp
  intro G p l e R s m args below meth c A ad0 n0 Q hc hr he H locs cells slots ls ad hm hl hx hbc hbs
  obtain ⟨hx1, hb1, hr1, hml1, hown1, hts1, hlk1, htb1, hlt1, hin1, hK1, hN1, hSR1, hAO1, hC1, hA1⟩ := id hc
  refine lv_acmp_ne (rx := some (ad i)) (ry := some (ad j)) hx1 hb1 hdg ht (fun z => ?_) (fun z => ?_)
  · exact kt G p l e R s m args below meth c A ad0 n0 Q hc hr he H locs cells slots ls ad hm (hl.stk (cl2 hl.2.2)) hx hbc hbs
  · exact kf G p l e R s m args below meth c A ad0 n0 Q hc hr he H locs cells slots ls ad hm (hl.stk (cl2 hl.2.2)) hx hbc hbs
theorem sw_instS {b : Nat} {fs : List Value} (hp : pc + 3 = pc') (hdg : decode M.2.1 pc = .ok (.instanceof idx, 3)) (hw1 : Cond.classLink M.1.cls idx "java/lang/String" ∈ GT) (hb : h b = .inr (0, fs)) (kk : SW SR M d bc bs pc' lv (.int 1 :: st) h n Post) : SW SR M d bc bs pc lv (.ref b :: st) h n Post := by
  subst hp
  intro G p l e R s m args below meth c A ad0 n0 Q hc hr he H locs cells slots ls ad hm hl hx hbc hbs
  have hi : b < n := hl.2.2 _ List.mem_cons_self b rfl
  obtain ⟨hx1, hb1, hr1, hml1, hown1, hts1, hlk1, htb1, hlt1, hin1, hK1, hN1, hSR1, hAO1, hC1, hA1⟩ := id hc
  have hv : ∃ cell : Cell, H[ad b]? = some cell ∧ cell.vm.isStatics = false ∧ s.vm.findClass "java/lang/String" = some cell.cls := recv_at hc hm hb hi
  exact va_instE hx1 hb1 hown1 (hts1 _ hw1) hv hdg (kk G p l e R s m args below meth c A ad0 n0 Q hc hr he H locs cells slots ls ad hm (hl.stk (clc (cl1 hl.2.2) clV_int)) hx hbc hbs)
theorem sw_castS {b : Nat} {fs : List Value} (hp : pc + 3 = pc') (hdg : decode M.2.1 pc = .ok (.checkcast idx, 3)) (hw1 : Cond.classLink M.1.cls idx "java/lang/String" ∈ GT) (hb : h b = .inr (0, fs)) (kk : SW SR M d bc bs pc' lv (.ref b :: st) h n Post) : SW SR M d bc bs pc lv (.ref b :: st) h n Post := by
  subst hp
  intro G p l e R s m args below meth c A ad0 n0 Q hc hr he H locs cells slots ls ad hm hl hx hbc hbs
  have hi : b < n := hl.2.2 _ List.mem_cons_self b rfl
  obtain ⟨hx1, hb1, hr1, hml1, hown1, hts1, hlk1, htb1, hlt1, hin1, hK1, hN1, hSR1, hAO1, hC1, hA1⟩ := id hc
  have hv : ∃ cell : Cell, H[ad b]? = some cell ∧ cell.vm.isStatics = false ∧ s.vm.findClass "java/lang/String" = some cell.cls := recv_at hc hm hb hi
  exact va_castE hx1 hb1 hown1 (hts1 _ hw1) hv hdg (kk G p l e R s m args below meth c A ad0 n0 Q hc hr he H locs cells slots ls ad hm hl hx hbc hbs)
end
