/-! more rules: text constants, ifnonnull, clone and arraycopy of bytes -/
section
variable {SR : SRT} {M : MI} {d bc bs pc pc' tgt n : Nat} {lv : List (Nat × Value)} {st : List Value} {h : AH} {Post : ARes → AH → Nat → Prop}
theorem sw_ldcS {idx i : Nat} {tx : String} (hp : pc + 2 = pc') (hdg : decode M.2.1 pc = .ok (.ldc idx, 2)) (hs : (M.1.cls, idx, tx, i) ∈ SR) (hi : i < nC) (k : SW SR M d bc bs pc' lv (.ref i :: st) h n Post) : SW SR M d bc bs pc lv st h n Post := by
  subst hp
  intro G p l e R s m args below meth c A ad0 n0 Q hc hr he H locs cells slots ls ad hm hl hx hbc hbs
  have e1 : ad i = G.2.2.1 i := (hm.2.2.2.2.2 i hi).2.1
  have hk := k G p l e R s m args below meth c A ad0 n0 Q hc hr he H locs cells slots ls ad hm (hl.stk (clc hl.2.2 (fun j hj => by cases hj; exact Nat.lt_of_lt_of_le hi hm.lt))) hx hbc hbs
  obtain ⟨hx1, hb1, hr1, hml1, hown1, hts1, hlk1, htb1, hlt1, hin1, hK1, hN1, hSR1, hAO1, hC1, hA1⟩ := id hc
  have hz : vk_R M.1.cls idx tx (G.2.2.1 i) s := hSR1 (M.1.cls, idx, tx, i) hs
  rw [List.map_cons] at hk
  have hk' : W p l e R s m args below meth c H locs cells slots Q (F0 m (pc + 2) ls (.ref (G.2.2.1 i) :: st.map (em ad))) := e1 ▸ hk
  exact va_ldcS hx1 hb1 hown1 hz hdg hk'
end
