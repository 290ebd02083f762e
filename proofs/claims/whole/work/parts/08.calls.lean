/-! a method from its first place; throws; calls -/
theorem W.mono {p : Program} {l : Launch} {e : Env} {R : Room} {s : State} {m : MethodId} {args : Array Value} {below : List Frame} {meth : Method} {c : Code} {H : Heap} {locs : List Loc} {cells slots : Nat} {Q Q' : State → Prop} {g : JFrame} (hQ : ∀ t, Q t → Q' t) (k : W p l e R s m args below meth c H locs cells slots Q g) : W p l e R s m args below meth c H locs cells slots Q' g := by
  intro T hT X
  obtain ⟨t, a, b⟩ := k T hT X
  exact ⟨t, a, hQ t b⟩
theorem vx_W.mono {p : Program} {l : Launch} {e : Env} {R : Room} {s : State} {m : MethodId} {args : Array Value} {below : List Frame} {meth : Method} {c : Code} {H : Heap} {locs : List Loc} {cells slots : Nat} {Q Q' : State → Prop} {g : JFrame} {q : Addr} (hQ : ∀ t, Q t → Q' t) (k : vx_W p l e R s m args below meth c H locs cells slots Q g q) : vx_W p l e R s m args below meth c H locs cells slots Q' g q := by
  intro T hT X
  obtain ⟨t, a, b⟩ := k T hT X
  exact ⟨t, a, hQ t b⟩
theorem lv_args_map {ad : Nat → Nat} : ∀ (as : List Value) (i : Nat), lv_args i (as.map (em ad)) = (lv_args i as).map (fun q => (q.1, em ad q.2))
  | [], _ => rfl
  | v :: vs, i => by
    show (i, em ad v) :: lv_args (if (em ad v).category = 2 then i + 2 else i + 1) (vs.map (em ad)) = (i, em ad v) :: (lv_args (if v.category = 2 then i + 2 else i + 1) vs).map (fun q => (q.1, em ad q.2))
    rw [em_cat, lv_args_map vs]
theorem lv_args_cl {n : Nat} : ∀ (as : List Value) (i : Nat), (∀ v ∈ as, clV n v) → ∀ q ∈ lv_args i as, clV n q.2
  | [], _, _, q, hq => by cases hq
  | v :: vs, i, h, q, hq => by
    rcases List.mem_cons.mp hq with e | e
    · rw [e]; exact h v List.mem_cons_self
    · exact lv_args_cl vs _ (fun w hw => h w (List.mem_cons_of_mem _ hw)) q e
theorem lg_sl_len {ad : Nat → Nat} : ∀ (as : List Value), (lg_sl (as.map (em ad))).length = (lg_sl as).length
  | [] => rfl
  | v :: vs => by
    have ih := lg_sl_len (ad := ad) vs
    have e1 : lg_sl ((v :: vs).map (em ad)) = (if (em ad v).category = 2 then [.val (em ad v), .second] else [.val (em ad v)]) ++ lg_sl (vs.map (em ad)) := by simp [lg_sl]
    have e2 : lg_sl (v :: vs) = (if v.category = 2 then [.val v, .second] else [.val v]) ++ lg_sl vs := by simp [lg_sl]
    rw [e1, e2, List.length_append, List.length_append, ih, em_cat]
    split <;> rfl
theorem GT_good : ∀ w ∈ GT, goodWord w = true := fun w hw => (List.mem_filter.mp hw).2
theorem cwM_good (M : MI) : goodWord (cwM M) = true := by
  unfold cwM
  split <;> rfl
theorem wsM_GT {M : MI} (hM : cwM M ∈ GT) : GoodIn GT (wsM M) := fun w hw => by
  rcases List.mem_cons.mp hw with e | e
  · rw [e]; exact ⟨hM, good_of_word (cwM_good M)⟩
  · exact ⟨e, good_of_word (GT_good w e)⟩
section
variable {SR : SRT} {M : MI}
/-- the method's ends out of its contract -/
theorem en_of {d bc bs : Nat} {h0 : AH} {n0 : Nat} {Post : ARes → AH → Nat → Prop} {G : GD} {p : Program} {l : Launch} {e : Env} {R : Room} {s : State} {m : MethodId} {args : Array Value} {below : List Frame} {meth : Method} {c : Code} {A : Nat → Prop} {ad0 : Nat → Nat} (hc : CX SR G M p l s m args meth c A) :
    EN G M p l e R s m args below meth c A ad0 n0 (vx_MQ below (SQc G A ad0 n0 Post) (SXc G A ad0 n0 Post) args s R.cells R.slots A) Post := by
  obtain ⟨hx1, hb1, hr1, hml1, hown1, hts1, hlk1, htb1, hlt1, hin1, hK1, hN1, hSR1, hAO1, hC1, hA1⟩ := id hc
  refine ⟨fun H locs cells slots ls ad h n v pc hm hx hcl hP hcells hslots hret => ?_, fun H locs ad h n E hm hx hP t ht => ?_⟩
  · have hq : ∀ t : State, t.heap = H → s.WarmedH t.vm → SQc G A ad0 n0 Post args s (.returned (v.map (em ad))) t := fun t ht hW =>
      ⟨⟨v, ad, h, n, rfl, hP, hx, hcl, by rw [ht]; exact hm.1, hm.2.1, hm.2.2.2.1, hm.2.2.2.2.1, hm.2.2.2.2.2⟩, hm.2.2.1.F ht⟩
    refine vx_ret (W.widen hcells hslots ?_)
    match v, hret, hq with
    | none, hret, hq => exact W.vret hx1 hb1 (hr1.trans hret.2) hq hm.2.2.1.2.2 hret.1 hlk1
    | some (.int x), hret, hq =>
      obtain ⟨g1, ty, g2, g3⟩ := hret
      exact W.zret hx1 hb1 (hr1.trans g2) g3 hq hm.2.2.1.2.2 g1 hlk1
    | some (.long x), hret, hq => exact W.lret hx1 hb1 (hr1.trans hret.2) hq hm.2.2.1.2.2 hret.1 hlk1
    | some (.ref i), hret, hq =>
      obtain ⟨g1, rt, g2, g3⟩ := hret
      exact W.aret hx1 hb1 (hr1.trans g2) g3 (Or.inr ⟨_, rfl⟩) hq hm.2.2.1.2.2 g1 hlk1
  · obtain ⟨o, b1, b2, b3⟩ := ht
    refine ⟨o, b1, b2, ?_⟩
    rcases b3 with ⟨z, -⟩ | ⟨q, ho, E', ce, L, ⟨rfl, g1, g2⟩, g3, g4, g5, g6, g7, g8⟩
    · exact z.elim
    · refine Or.inr ⟨q, ho, E', ce, L, ⟨⟨ad, h, n, hP, hx, ?_, hm.2.1, hm.2.2.2.1, hm.2.2.2.2.1, hm.2.2.2.2.2⟩, ?_⟩, g3, g4, g5, g6, g7, g8⟩
      · exact hm.1.kept (fun k q hk => g2 _ ((hm.1 k q hk).lt))
      · exact ⟨Nat.le_trans hm.2.2.1.1 g1, fun q a b => (g2 q (Nat.lt_of_lt_of_le a hm.2.2.1.1)).trans (hm.2.2.1.2.1 q a b)⟩
theorem hm_entry {G : GD} {ad : Nat → Nat} {h : AH} {n sz : Nat} {s : State} (hv : PicU SR G ad h n sz s) : HM G (va_A (wsH G ad h n) sz) s.heap h n s.heap [] ad := by
  obtain ⟨h1, h2, h3, h4, h5, h6, -⟩ := hv
  refine ⟨h2, ?_, va_S.rf, h4, h5, h6⟩
  exact h3.self
theorem sm_of {d bc bs : Nat} {as : List Value} {h : AH} {n : Nat} {Post : ARes → AH → Nat → Prop} (hy : plainName M.1.cls = true) (hM : M.2.2.2.2 = []) (hlen : (lg_sl as).length ≤ M.2.2.1)
    (k : SW SR M d bc bs 0 (lv_args 0 as) [] h n Post) : SM SR M d bc bs as h n Post := by
  intro l hl G ad sz has
  have hcw : cwM M = Cond.code M.1 M.2.1 M.2.2.1 M.2.2.2.1 := by unfold cwM; rw [if_pos hM]
  refine vx_ofW (cc := M.2.1) (maxL := M.2.2.1) (ret := M.2.2.2.1) (ws' := GT) hy (by rw [← hcw]; rfl) ?_
  intro p e s m args below meth c s₁ B hml ht hv
  obtain ⟨rfl, hv⟩ := hv
  have hts := atoms_spec (ws := wsM M) B.pre
  have hcx : CX SR G M p l s m ((as.map (em ad)).toArray) meth c (va_A (wsH G ad h n) sz) := by
    refine ⟨B.exec, B.bytes, B.returns, hml, findClass_of_methodNamed B.named, fun w hw => hts w (List.mem_cons_of_mem _ hw), B.notSynchronized, ?_, hl, fun q => (name_of_methodNamed B.named B.method).1.trans q, hv.2.2.2.2.2.2.1, hv.2.2.2.2.2.2.2.1, hv.2.2.2.2.2.2.2.2.1, hv.2.2.2.2.2.2.2.2.2.1, hv.2.2.2.2.2.2.2.2.2.2, fun q hq => Or.inr (by rw [← hv.1]; exact hq)⟩
    rw [hM]
    exact List.eq_nil_iff_forall_not_mem.mpr ht
  have hl9 := lv_entry (as.map (em ad)) (n := M.2.2.1) (by rw [lg_sl_len]; exact hlen)
  rw [lg_entry_eq]
  refine k G p l e (headSpec (wsM M) (rmOf d bc bs)).room s m _ below meth c _ ad n _ hcx ⟨Nat.le_refl _, Nat.le_refl _⟩ (en_of (d := d) (bc := bc) (bs := bs) (h0 := h) hcx) _ _ 0 0 _ ad (hm_entry hv) ⟨?_, lv_args_cl as 0 has, fun v hv => by cases hv⟩ Ext.rf (by show 0 + bc ≤ bc; omega) (by show 0 + bs ≤ bs; omega)
  rw [← lv_args_map]
  exact hl9
theorem sm_ofH {d bc bs : Nat} {as : List Value} {h : AH} {n : Nat} {Post : ARes → AH → Nat → Prop} (hy : plainName M.1.cls = true) (hM : M.2.2.2.2 ≠ []) (hlen : (lg_sl as).length ≤ M.2.2.1)
    (k : SW SR M d bc bs 0 (lv_args 0 as) [] h n Post) : SM SR M d bc bs as h n Post := by
  intro l hl G ad sz has
  have hcw : cwM M = Cond.codeWith M.1 M.2.1 M.2.2.1 M.2.2.2.1 M.2.2.2.2 := by unfold cwM; rw [if_neg hM]
  refine vx_ofWH (cc := M.2.1) (maxL := M.2.2.1) (ret := M.2.2.2.1) (hh := M.2.2.2.2) (ws' := GT) hy (by rw [← hcw]; rfl) ?_
  intro p e s m args below meth c s₁ B hml hv
  obtain ⟨rfl, hv⟩ := hv
  have hts := atoms_spec (ws := wsM M) B.pre
  have hcx : CX SR G M p l s m ((as.map (em ad)).toArray) meth c (va_A (wsH G ad h n) sz) := by
    refine ⟨B.exec, B.bytes, B.returns, hml, findClass_of_methodNamed B.named, fun w hw => hts w (List.mem_cons_of_mem _ hw), B.notSynchronized, ?_, hl, fun q => (name_of_methodNamed B.named B.method).1.trans q, hv.2.2.2.2.2.2.1, hv.2.2.2.2.2.2.2.1, hv.2.2.2.2.2.2.2.2.1, hv.2.2.2.2.2.2.2.2.2.1, hv.2.2.2.2.2.2.2.2.2.2, fun q hq => Or.inr (by rw [← hv.1]; exact hq)⟩
    exact vx_table (x := M.1) B (hcw ▸ hts _ List.mem_cons_self)
  have hl9 := lv_entry (as.map (em ad)) (n := M.2.2.1) (by rw [lg_sl_len]; exact hlen)
  rw [lg_entry_eq]
  refine k G p l e (headSpec (wsM M) (rmOf d bc bs)).room s m _ below meth c _ ad n _ hcx ⟨Nat.le_refl _, Nat.le_refl _⟩ (en_of (d := d) (bc := bc) (bs := bs) (h0 := h) hcx) _ _ 0 0 _ ad (hm_entry hv) ⟨?_, lv_args_cl as 0 has, fun v hv => by cases hv⟩ Ext.rf (by show 0 + bc ≤ bc; omega) (by show 0 + bs ≤ bs; omega)
  rw [← lv_args_map]
  exact hl9
end
