section
variable {SR : SRT} {M : MI} {d bc bs pc pc' tgt n : Nat} {lv : List (Nat × Value)} {st : List Value} {h : AH} {Post : ARes → AH → Nat → Prop}
theorem sw_iconst {k0 : Int} {v : Int32} (hp : pc + 1 = pc') (hdg : decode M.2.1 pc = .ok (.iconst k0, 1)) (hv : Int32.ofInt k0 = v) (k : SW SR M d bc bs pc' lv (.int v :: st) h n Post) : SW SR M d bc bs pc lv (st) h n Post := by
  subst hp
  intro G p l e R s m args below meth c A ad0 n0 Q hc hr he H locs cells slots ls ad hm hl hx hbc hbs
  have hk := k G p l e R s m args below meth c A ad0 n0 Q hc hr he H locs cells slots ls ad hm (hl.stk (clc hl.2.2 clV_int)) hx hbc hbs
  exact lv_iconst hc.1 hc.2.1 hdg hv hk
theorem sw_bipush {k0 : Int} {v : Int32} (hp : pc + 2 = pc') (hdg : decode M.2.1 pc = .ok (.bipush k0, 2)) (hv : (Int8.ofInt k0).toInt32 = v) (k : SW SR M d bc bs pc' lv (.int v :: st) h n Post) : SW SR M d bc bs pc lv (st) h n Post := by
  subst hp
  intro G p l e R s m args below meth c A ad0 n0 Q hc hr he H locs cells slots ls ad hm hl hx hbc hbs
  have hk := k G p l e R s m args below meth c A ad0 n0 Q hc hr he H locs cells slots ls ad hm (hl.stk (clc hl.2.2 clV_int)) hx hbc hbs
  exact lv_bipush hc.1 hc.2.1 hdg hv hk
theorem sw_sipush {k0 : Int} {v : Int32} (hp : pc + 3 = pc') (hdg : decode M.2.1 pc = .ok (.sipush k0, 3)) (hv : (Int16.ofInt k0).toInt32 = v) (k : SW SR M d bc bs pc' lv (.int v :: st) h n Post) : SW SR M d bc bs pc lv (st) h n Post := by
  subst hp
  intro G p l e R s m args below meth c A ad0 n0 Q hc hr he H locs cells slots ls ad hm hl hx hbc hbs
  have hk := k G p l e R s m args below meth c A ad0 n0 Q hc hr he H locs cells slots ls ad hm (hl.stk (clc hl.2.2 clV_int)) hx hbc hbs
  exact lv_sipush hc.1 hc.2.1 hdg hv hk
theorem sw_lconst {k0 : Fin 2} {v : Int64} (hp : pc + 1 = pc') (hdg : decode M.2.1 pc = .ok (.lconst k0, 1)) (hv : Int64.ofNat (k0 : Nat) = v) (k : SW SR M d bc bs pc' lv (.long v :: st) h n Post) : SW SR M d bc bs pc lv (st) h n Post := by
  subst hp
  intro G p l e R s m args below meth c A ad0 n0 Q hc hr he H locs cells slots ls ad hm hl hx hbc hbs
  have hk := k G p l e R s m args below meth c A ad0 n0 Q hc hr he H locs cells slots ls ad hm (hl.stk (clc hl.2.2 clV_long)) hx hbc hbs
  exact lv_lconst hc.1 hc.2.1 hdg hv hk
theorem sw_iload_n {k0 : Fin 4} {x : Int32} (hp : pc + 1 = pc') (hdg : decode M.2.1 pc = .ok (.iload_n k0, 1)) (hv : lvG lv k0 = some (.int x)) (k : SW SR M d bc bs pc' lv (.int x :: st) h n Post) : SW SR M d bc bs pc lv (st) h n Post := by
  subst hp
  intro G p l e R s m args below meth c A ad0 n0 Q hc hr he H locs cells slots ls ad hm hl hx hbc hbs
  have hk := k G p l e R s m args below meth c A ad0 n0 Q hc hr he H locs cells slots ls ad hm (hl.stk (clc hl.2.2 (hl.2.1 _ (lvG_mem hv)))) hx hbc hbs
  exact lv_iload_n hc.1 hc.2.1 hdg rfl (lv_get hl (lvG_mem hv)) hk
theorem sw_iload {i : Nat} {x : Int32} (hp : pc + 2 = pc') (hdg : decode M.2.1 pc = .ok (.iload i, 2)) (hv : lvG lv i = some (.int x)) (k : SW SR M d bc bs pc' lv (.int x :: st) h n Post) : SW SR M d bc bs pc lv (st) h n Post := by
  subst hp
  intro G p l e R s m args below meth c A ad0 n0 Q hc hr he H locs cells slots ls ad hm hl hx hbc hbs
  have hk := k G p l e R s m args below meth c A ad0 n0 Q hc hr he H locs cells slots ls ad hm (hl.stk (clc hl.2.2 (hl.2.1 _ (lvG_mem hv)))) hx hbc hbs
  exact lv_iload hc.1 hc.2.1 hdg (lv_get hl (lvG_mem hv)) hk
theorem sw_lload_n {k0 : Fin 4} {x : Int64} (hp : pc + 1 = pc') (hdg : decode M.2.1 pc = .ok (.lload_n k0, 1)) (hv : lvG lv k0 = some (.long x)) (k : SW SR M d bc bs pc' lv (.long x :: st) h n Post) : SW SR M d bc bs pc lv (st) h n Post := by
  subst hp
  intro G p l e R s m args below meth c A ad0 n0 Q hc hr he H locs cells slots ls ad hm hl hx hbc hbs
  have hk := k G p l e R s m args below meth c A ad0 n0 Q hc hr he H locs cells slots ls ad hm (hl.stk (clc hl.2.2 (hl.2.1 _ (lvG_mem hv)))) hx hbc hbs
  exact lv_lload_n hc.1 hc.2.1 hdg rfl (lv_get hl (lvG_mem hv)) hk
theorem sw_lload {i : Nat} {x : Int64} (hp : pc + 2 = pc') (hdg : decode M.2.1 pc = .ok (.lload i, 2)) (hv : lvG lv i = some (.long x)) (k : SW SR M d bc bs pc' lv (.long x :: st) h n Post) : SW SR M d bc bs pc lv (st) h n Post := by
  subst hp
  intro G p l e R s m args below meth c A ad0 n0 Q hc hr he H locs cells slots ls ad hm hl hx hbc hbs
  have hk := k G p l e R s m args below meth c A ad0 n0 Q hc hr he H locs cells slots ls ad hm (hl.stk (clc hl.2.2 (hl.2.1 _ (lvG_mem hv)))) hx hbc hbs
  exact lv_lload hc.1 hc.2.1 hdg (lv_get hl (lvG_mem hv)) hk
theorem sw_aload_n {k0 : Fin 4} {x : Nat} (hp : pc + 1 = pc') (hdg : decode M.2.1 pc = .ok (.aload_n k0, 1)) (hv : lvG lv k0 = some (.ref x)) (k : SW SR M d bc bs pc' lv (.ref x :: st) h n Post) : SW SR M d bc bs pc lv (st) h n Post := by
  subst hp
  intro G p l e R s m args below meth c A ad0 n0 Q hc hr he H locs cells slots ls ad hm hl hx hbc hbs
  have hk := k G p l e R s m args below meth c A ad0 n0 Q hc hr he H locs cells slots ls ad hm (hl.stk (clc hl.2.2 (hl.2.1 _ (lvG_mem hv)))) hx hbc hbs
  exact lv_aload_n hc.1 hc.2.1 hdg rfl (lv_get hl (lvG_mem hv)) hk
theorem sw_aload {i : Nat} {x : Nat} (hp : pc + 2 = pc') (hdg : decode M.2.1 pc = .ok (.aload i, 2)) (hv : lvG lv i = some (.ref x)) (k : SW SR M d bc bs pc' lv (.ref x :: st) h n Post) : SW SR M d bc bs pc lv (st) h n Post := by
  subst hp
  intro G p l e R s m args below meth c A ad0 n0 Q hc hr he H locs cells slots ls ad hm hl hx hbc hbs
  have hk := k G p l e R s m args below meth c A ad0 n0 Q hc hr he H locs cells slots ls ad hm (hl.stk (clc hl.2.2 (hl.2.1 _ (lvG_mem hv)))) hx hbc hbs
  exact lv_aload hc.1 hc.2.1 hdg (lv_get hl (lvG_mem hv)) hk
theorem sw_aload_nN {k0 : Fin 4} (hp : pc + 1 = pc') (hdg : decode M.2.1 pc = .ok (.aload_n k0, 1)) (hv : lvG lv k0 = some .null) (k : SW SR M d bc bs pc' lv (.null :: st) h n Post) : SW SR M d bc bs pc lv (st) h n Post := by
  subst hp
  intro G p l e R s m args below meth c A ad0 n0 Q hc hr he H locs cells slots ls ad hm hl hx hbc hbs
  have hk := k G p l e R s m args below meth c A ad0 n0 Q hc hr he H locs cells slots ls ad hm (hl.stk (clc hl.2.2 clV_null)) hx hbc hbs
  exact lv_aload_nN hc.1 hc.2.1 hdg rfl (lv_get hl (lvG_mem hv)) hk
theorem sw_aloadN {i : Nat} (hp : pc + 2 = pc') (hdg : decode M.2.1 pc = .ok (.aload i, 2)) (hv : lvG lv i = some .null) (k : SW SR M d bc bs pc' lv (.null :: st) h n Post) : SW SR M d bc bs pc lv (st) h n Post := by
  subst hp
  intro G p l e R s m args below meth c A ad0 n0 Q hc hr he H locs cells slots ls ad hm hl hx hbc hbs
  have hk := k G p l e R s m args below meth c A ad0 n0 Q hc hr he H locs cells slots ls ad hm (hl.stk (clc hl.2.2 clV_null)) hx hbc hbs
  exact lv_aloadN hc.1 hc.2.1 hdg (lv_get hl (lvG_mem hv)) hk
theorem sw_istore_n {k0 : Fin 4} {x : Int32} {lv' : List (Nat × Value)} (hp : pc + 1 = pc') (hdg : decode M.2.1 pc = .ok (.istore_n k0, 1)) (hn : (k0 : Nat) < M.2.2.1) (hl9 : lvS (k0 : Nat) (.int x) lv = lv') (k : SW SR M d bc bs pc' lv' st h n Post) : SW SR M d bc bs pc lv (.int x :: st) h n Post := by
  subst hp
  subst hl9
  intro G p l e R s m args below meth c A ad0 n0 Q hc hr he H locs cells slots ls ad hm hl hx hbc hbs
  refine lv_istore_n hc.1 hc.2.1 hdg rfl hl.1 hn (lvS_map (v := .int x)) (fun ls' hl' => ?_)
  exact k G p l e R s m args below meth c A ad0 n0 Q hc hr he H locs cells slots ls' ad hm ⟨hl', lvS_cl hl.2.1 (hl.2.2 _ List.mem_cons_self), cl1 hl.2.2⟩ hx hbc hbs
theorem sw_istore {i : Nat} {x : Int32} {lv' : List (Nat × Value)} (hp : pc + 2 = pc') (hdg : decode M.2.1 pc = .ok (.istore i, 2)) (hn : i < M.2.2.1) (hl9 : lvS i (.int x) lv = lv') (k : SW SR M d bc bs pc' lv' st h n Post) : SW SR M d bc bs pc lv (.int x :: st) h n Post := by
  subst hp
  subst hl9
  intro G p l e R s m args below meth c A ad0 n0 Q hc hr he H locs cells slots ls ad hm hl hx hbc hbs
  refine lv_istore hc.1 hc.2.1 hdg hl.1 hn (lvS_map (v := .int x)) (fun ls' hl' => ?_)
  exact k G p l e R s m args below meth c A ad0 n0 Q hc hr he H locs cells slots ls' ad hm ⟨hl', lvS_cl hl.2.1 (hl.2.2 _ List.mem_cons_self), cl1 hl.2.2⟩ hx hbc hbs
theorem sw_lstore_n {k0 : Fin 4} {x : Int64} {lv' : List (Nat × Value)} (hp : pc + 1 = pc') (hdg : decode M.2.1 pc = .ok (.lstore_n k0, 1)) (hn : (k0 : Nat) + 1 < M.2.2.1) (hl9 : lvS2 (k0 : Nat) (.long x) lv = lv') (k : SW SR M d bc bs pc' lv' st h n Post) : SW SR M d bc bs pc lv (.long x :: st) h n Post := by
  subst hp
  subst hl9
  intro G p l e R s m args below meth c A ad0 n0 Q hc hr he H locs cells slots ls ad hm hl hx hbc hbs
  refine lv_lstore_n hc.1 hc.2.1 hdg rfl hl.1 hn (lvS2_map (v := .long x)) (fun ls' hl' => ?_)
  exact k G p l e R s m args below meth c A ad0 n0 Q hc hr he H locs cells slots ls' ad hm ⟨hl', lvS2_cl hl.2.1 (hl.2.2 _ List.mem_cons_self), cl1 hl.2.2⟩ hx hbc hbs
theorem sw_lstore {i : Nat} {x : Int64} {lv' : List (Nat × Value)} (hp : pc + 2 = pc') (hdg : decode M.2.1 pc = .ok (.lstore i, 2)) (hn : i + 1 < M.2.2.1) (hl9 : lvS2 i (.long x) lv = lv') (k : SW SR M d bc bs pc' lv' st h n Post) : SW SR M d bc bs pc lv (.long x :: st) h n Post := by
  subst hp
  subst hl9
  intro G p l e R s m args below meth c A ad0 n0 Q hc hr he H locs cells slots ls ad hm hl hx hbc hbs
  refine lv_lstore hc.1 hc.2.1 hdg hl.1 hn (lvS2_map (v := .long x)) (fun ls' hl' => ?_)
  exact k G p l e R s m args below meth c A ad0 n0 Q hc hr he H locs cells slots ls' ad hm ⟨hl', lvS2_cl hl.2.1 (hl.2.2 _ List.mem_cons_self), cl1 hl.2.2⟩ hx hbc hbs
theorem sw_astore_n {k0 : Fin 4} {x : Nat} {lv' : List (Nat × Value)} (hp : pc + 1 = pc') (hdg : decode M.2.1 pc = .ok (.astore_n k0, 1)) (hn : (k0 : Nat) < M.2.2.1) (hl9 : lvS (k0 : Nat) (.ref x) lv = lv') (k : SW SR M d bc bs pc' lv' st h n Post) : SW SR M d bc bs pc lv (.ref x :: st) h n Post := by
  subst hp
  subst hl9
  intro G p l e R s m args below meth c A ad0 n0 Q hc hr he H locs cells slots ls ad hm hl hx hbc hbs
  refine lv_astore_n hc.1 hc.2.1 hdg rfl hl.1 hn (lvS_map (v := .ref x)) (fun ls' hl' => ?_)
  exact k G p l e R s m args below meth c A ad0 n0 Q hc hr he H locs cells slots ls' ad hm ⟨hl', lvS_cl hl.2.1 (hl.2.2 _ List.mem_cons_self), cl1 hl.2.2⟩ hx hbc hbs
theorem sw_astore {i : Nat} {x : Nat} {lv' : List (Nat × Value)} (hp : pc + 2 = pc') (hdg : decode M.2.1 pc = .ok (.astore i, 2)) (hn : i < M.2.2.1) (hl9 : lvS i (.ref x) lv = lv') (k : SW SR M d bc bs pc' lv' st h n Post) : SW SR M d bc bs pc lv (.ref x :: st) h n Post := by
  subst hp
  subst hl9
  intro G p l e R s m args below meth c A ad0 n0 Q hc hr he H locs cells slots ls ad hm hl hx hbc hbs
  refine lv_astore hc.1 hc.2.1 hdg hl.1 hn (lvS_map (v := .ref x)) (fun ls' hl' => ?_)
  exact k G p l e R s m args below meth c A ad0 n0 Q hc hr he H locs cells slots ls' ad hm ⟨hl', lvS_cl hl.2.1 (hl.2.2 _ List.mem_cons_self), cl1 hl.2.2⟩ hx hbc hbs
theorem sw_astore_nN {k0 : Fin 4} {lv' : List (Nat × Value)} (hp : pc + 1 = pc') (hdg : decode M.2.1 pc = .ok (.astore_n k0, 1)) (hn : (k0 : Nat) < M.2.2.1) (hl9 : lvS (k0 : Nat) (.null) lv = lv') (k : SW SR M d bc bs pc' lv' st h n Post) : SW SR M d bc bs pc lv (.null :: st) h n Post := by
  subst hp
  subst hl9
  intro G p l e R s m args below meth c A ad0 n0 Q hc hr he H locs cells slots ls ad hm hl hx hbc hbs
  refine lv_astore_nN hc.1 hc.2.1 hdg rfl hl.1 hn (lvS_map (v := .null)) (fun ls' hl' => ?_)
  exact k G p l e R s m args below meth c A ad0 n0 Q hc hr he H locs cells slots ls' ad hm ⟨hl', lvS_cl hl.2.1 (hl.2.2 _ List.mem_cons_self), cl1 hl.2.2⟩ hx hbc hbs
theorem sw_astoreN {i : Nat} {lv' : List (Nat × Value)} (hp : pc + 2 = pc') (hdg : decode M.2.1 pc = .ok (.astore i, 2)) (hn : i < M.2.2.1) (hl9 : lvS i (.null) lv = lv') (k : SW SR M d bc bs pc' lv' st h n Post) : SW SR M d bc bs pc lv (.null :: st) h n Post := by
  subst hp
  subst hl9
  intro G p l e R s m args below meth c A ad0 n0 Q hc hr he H locs cells slots ls ad hm hl hx hbc hbs
  refine lv_astoreN hc.1 hc.2.1 hdg hl.1 hn (lvS_map (v := .null)) (fun ls' hl' => ?_)
  exact k G p l e R s m args below meth c A ad0 n0 Q hc hr he H locs cells slots ls' ad hm ⟨hl', lvS_cl hl.2.1 (hl.2.2 _ List.mem_cons_self), cl1 hl.2.2⟩ hx hbc hbs
theorem sw_iinc {i : Nat} {k0 : Int} {x v : Int32} {lv' : List (Nat × Value)} (hp : pc + 3 = pc') (hdg : decode M.2.1 pc = .ok (.iinc i k0, 3)) (hv : lvG lv i = some (.int x)) (hk : x + Int32.ofInt k0 = v) (hn : i < M.2.2.1) (hl9 : lvS i (.int v) lv = lv') (k : SW SR M d bc bs pc' lv' st h n Post) : SW SR M d bc bs pc lv st h n Post := by
  subst hp
  subst hl9
  intro G p l e R s m args below meth c A ad0 n0 Q hc hr he H locs cells slots ls ad hm hl hx hbc hbs
  obtain ⟨k9, hk9⟩ := List.getElem?_of_mem (List.mem_map.mpr ⟨(i, Value.int x), lvG_mem hv, rfl⟩ : (i, em ad (.int x)) ∈ lv.map (fun q => (q.1, em ad q.2)))
  refine lv_iinc hc.1 hc.2.1 hdg hl.1 hk9 hk hn (lvS_map (v := .int v)) (fun ls' hl' => ?_)
  exact k G p l e R s m args below meth c A ad0 n0 Q hc hr he H locs cells slots ls' ad hm ⟨hl', lvS_cl hl.2.1 clV_int, hl.2.2⟩ hx hbc hbs
theorem sw_iadd {x y : Int32} (hp : pc + 1 = pc') (hdg : decode M.2.1 pc = .ok (.iadd, 1)) (k : SW SR M d bc bs pc' lv (.int (x + y) :: st) h n Post) : SW SR M d bc bs pc lv (.int y :: .int x :: st) h n Post := by
  subst hp
  intro G p l e R s m args below meth c A ad0 n0 Q hc hr he H locs cells slots ls ad hm hl hx hbc hbs
  have hk := k G p l e R s m args below meth c A ad0 n0 Q hc hr he H locs cells slots ls ad hm (hl.stk (clc (cl2 hl.2.2) clV_int)) hx hbc hbs
  exact lv_iadd hc.1 hc.2.1 hdg hk
theorem sw_isub {x y : Int32} (hp : pc + 1 = pc') (hdg : decode M.2.1 pc = .ok (.isub, 1)) (k : SW SR M d bc bs pc' lv (.int (x - y) :: st) h n Post) : SW SR M d bc bs pc lv (.int y :: .int x :: st) h n Post := by
  subst hp
  intro G p l e R s m args below meth c A ad0 n0 Q hc hr he H locs cells slots ls ad hm hl hx hbc hbs
  have hk := k G p l e R s m args below meth c A ad0 n0 Q hc hr he H locs cells slots ls ad hm (hl.stk (clc (cl2 hl.2.2) clV_int)) hx hbc hbs
  exact lv_isub hc.1 hc.2.1 hdg hk
theorem sw_imul {x y : Int32} (hp : pc + 1 = pc') (hdg : decode M.2.1 pc = .ok (.imul, 1)) (k : SW SR M d bc bs pc' lv (.int (x * y) :: st) h n Post) : SW SR M d bc bs pc lv (.int y :: .int x :: st) h n Post := by
  subst hp
  intro G p l e R s m args below meth c A ad0 n0 Q hc hr he H locs cells slots ls ad hm hl hx hbc hbs
  have hk := k G p l e R s m args below meth c A ad0 n0 Q hc hr he H locs cells slots ls ad hm (hl.stk (clc (cl2 hl.2.2) clV_int)) hx hbc hbs
  exact lv_imul hc.1 hc.2.1 hdg hk
theorem sw_iand {x y : Int32} (hp : pc + 1 = pc') (hdg : decode M.2.1 pc = .ok (.iand, 1)) (k : SW SR M d bc bs pc' lv (.int (x &&& y) :: st) h n Post) : SW SR M d bc bs pc lv (.int y :: .int x :: st) h n Post := by
  subst hp
  intro G p l e R s m args below meth c A ad0 n0 Q hc hr he H locs cells slots ls ad hm hl hx hbc hbs
  have hk := k G p l e R s m args below meth c A ad0 n0 Q hc hr he H locs cells slots ls ad hm (hl.stk (clc (cl2 hl.2.2) clV_int)) hx hbc hbs
  exact lv_iand hc.1 hc.2.1 hdg hk
theorem sw_ior {x y : Int32} (hp : pc + 1 = pc') (hdg : decode M.2.1 pc = .ok (.ior, 1)) (k : SW SR M d bc bs pc' lv (.int (x ||| y) :: st) h n Post) : SW SR M d bc bs pc lv (.int y :: .int x :: st) h n Post := by
  subst hp
  intro G p l e R s m args below meth c A ad0 n0 Q hc hr he H locs cells slots ls ad hm hl hx hbc hbs
  have hk := k G p l e R s m args below meth c A ad0 n0 Q hc hr he H locs cells slots ls ad hm (hl.stk (clc (cl2 hl.2.2) clV_int)) hx hbc hbs
  exact lv_ior hc.1 hc.2.1 hdg hk
theorem sw_ixor {x y : Int32} (hp : pc + 1 = pc') (hdg : decode M.2.1 pc = .ok (.ixor, 1)) (k : SW SR M d bc bs pc' lv (.int (x ^^^ y) :: st) h n Post) : SW SR M d bc bs pc lv (.int y :: .int x :: st) h n Post := by
  subst hp
  intro G p l e R s m args below meth c A ad0 n0 Q hc hr he H locs cells slots ls ad hm hl hx hbc hbs
  have hk := k G p l e R s m args below meth c A ad0 n0 Q hc hr he H locs cells slots ls ad hm (hl.stk (clc (cl2 hl.2.2) clV_int)) hx hbc hbs
  exact lv_ixor hc.1 hc.2.1 hdg hk
theorem sw_ishl {x y : Int32} (hp : pc + 1 = pc') (hdg : decode M.2.1 pc = .ok (.ishl, 1)) (k : SW SR M d bc bs pc' lv (.int (x <<< (y &&& 31)) :: st) h n Post) : SW SR M d bc bs pc lv (.int y :: .int x :: st) h n Post := by
  subst hp
  intro G p l e R s m args below meth c A ad0 n0 Q hc hr he H locs cells slots ls ad hm hl hx hbc hbs
  have hk := k G p l e R s m args below meth c A ad0 n0 Q hc hr he H locs cells slots ls ad hm (hl.stk (clc (cl2 hl.2.2) clV_int)) hx hbc hbs
  exact lv_ishl hc.1 hc.2.1 hdg hk
theorem sw_ishr {x y : Int32} (hp : pc + 1 = pc') (hdg : decode M.2.1 pc = .ok (.ishr, 1)) (k : SW SR M d bc bs pc' lv (.int (x >>> (y &&& 31)) :: st) h n Post) : SW SR M d bc bs pc lv (.int y :: .int x :: st) h n Post := by
  subst hp
  intro G p l e R s m args below meth c A ad0 n0 Q hc hr he H locs cells slots ls ad hm hl hx hbc hbs
  have hk := k G p l e R s m args below meth c A ad0 n0 Q hc hr he H locs cells slots ls ad hm (hl.stk (clc (cl2 hl.2.2) clV_int)) hx hbc hbs
  exact lv_ishr hc.1 hc.2.1 hdg hk
theorem sw_ladd {x y : Int64} (hp : pc + 1 = pc') (hdg : decode M.2.1 pc = .ok (.ladd, 1)) (k : SW SR M d bc bs pc' lv (.long (x + y) :: st) h n Post) : SW SR M d bc bs pc lv (.long y :: .long x :: st) h n Post := by
  subst hp
  intro G p l e R s m args below meth c A ad0 n0 Q hc hr he H locs cells slots ls ad hm hl hx hbc hbs
  have hk := k G p l e R s m args below meth c A ad0 n0 Q hc hr he H locs cells slots ls ad hm (hl.stk (clc (cl2 hl.2.2) clV_long)) hx hbc hbs
  exact lv_ladd hc.1 hc.2.1 hdg hk
theorem sw_lmul {x y : Int64} (hp : pc + 1 = pc') (hdg : decode M.2.1 pc = .ok (.lmul, 1)) (k : SW SR M d bc bs pc' lv (.long (x * y) :: st) h n Post) : SW SR M d bc bs pc lv (.long y :: .long x :: st) h n Post := by
  subst hp
  intro G p l e R s m args below meth c A ad0 n0 Q hc hr he H locs cells slots ls ad hm hl hx hbc hbs
  have hk := k G p l e R s m args below meth c A ad0 n0 Q hc hr he H locs cells slots ls ad hm (hl.stk (clc (cl2 hl.2.2) clV_long)) hx hbc hbs
  exact lv_lmul hc.1 hc.2.1 hdg hk
theorem sw_lsub {x y : Int64} (hp : pc + 1 = pc') (hdg : decode M.2.1 pc = .ok (.lsub, 1)) (k : SW SR M d bc bs pc' lv (.long (x - y) :: st) h n Post) : SW SR M d bc bs pc lv (.long y :: .long x :: st) h n Post := by
  subst hp
  intro G p l e R s m args below meth c A ad0 n0 Q hc hr he H locs cells slots ls ad hm hl hx hbc hbs
  have hk := k G p l e R s m args below meth c A ad0 n0 Q hc hr he H locs cells slots ls ad hm (hl.stk (clc (cl2 hl.2.2) clV_long)) hx hbc hbs
  exact lv_lsub hc.1 hc.2.1 hdg hk
theorem sw_idiv {x y : Int32} (hp : pc + 1 = pc') (hdg : decode M.2.1 pc = .ok (.idiv, 1)) (hz : ¬ y = 0) (k : SW SR M d bc bs pc' lv (.int (x / y) :: st) h n Post) : SW SR M d bc bs pc lv (.int y :: .int x :: st) h n Post := by
  subst hp
  intro G p l e R s m args below meth c A ad0 n0 Q hc hr he H locs cells slots ls ad hm hl hx hbc hbs
  have hk := k G p l e R s m args below meth c A ad0 n0 Q hc hr he H locs cells slots ls ad hm (hl.stk (clc (cl2 hl.2.2) clV_int)) hx hbc hbs
  exact lv_idiv hc.1 hc.2.1 hdg hz hk
theorem sw_irem {x y : Int32} (hp : pc + 1 = pc') (hdg : decode M.2.1 pc = .ok (.irem, 1)) (hz : ¬ y = 0) (k : SW SR M d bc bs pc' lv (.int (x - x / y * y) :: st) h n Post) : SW SR M d bc bs pc lv (.int y :: .int x :: st) h n Post := by
  subst hp
  intro G p l e R s m args below meth c A ad0 n0 Q hc hr he H locs cells slots ls ad hm hl hx hbc hbs
  have hk := k G p l e R s m args below meth c A ad0 n0 Q hc hr he H locs cells slots ls ad hm (hl.stk (clc (cl2 hl.2.2) clV_int)) hx hbc hbs
  exact lv_irem hc.1 hc.2.1 hdg hz hk
theorem sw_ineg {x : Int32} (hp : pc + 1 = pc') (hdg : decode M.2.1 pc = .ok (.ineg, 1)) (k : SW SR M d bc bs pc' lv (.int (-x) :: st) h n Post) : SW SR M d bc bs pc lv (.int x :: st) h n Post := by
  subst hp
  intro G p l e R s m args below meth c A ad0 n0 Q hc hr he H locs cells slots ls ad hm hl hx hbc hbs
  have hk := k G p l e R s m args below meth c A ad0 n0 Q hc hr he H locs cells slots ls ad hm (hl.stk (clc (cl1 hl.2.2) clV_int)) hx hbc hbs
  exact lv_ineg hc.1 hc.2.1 hdg hk
theorem sw_iushr {x y v : Int32} (hp : pc + 1 = pc') (hdg : decode M.2.1 pc = .ok (.iushr, 1)) (hv : (x.toUInt32 >>> (y.toUInt32 &&& Int32.toUInt32 31)).toInt32 = v) (k : SW SR M d bc bs pc' lv (.int v :: st) h n Post) : SW SR M d bc bs pc lv (.int y :: .int x :: st) h n Post := by
  subst hp
  intro G p l e R s m args below meth c A ad0 n0 Q hc hr he H locs cells slots ls ad hm hl hx hbc hbs
  have hk := k G p l e R s m args below meth c A ad0 n0 Q hc hr he H locs cells slots ls ad hm (hl.stk (clc (cl2 hl.2.2) clV_int)) hx hbc hbs
  exact lv_iushr hc.1 hc.2.1 hdg hv hk
theorem sw_i2l {x : Int32} (hp : pc + 1 = pc') (hdg : decode M.2.1 pc = .ok (.i2l, 1)) (k : SW SR M d bc bs pc' lv (.long x.toInt64 :: st) h n Post) : SW SR M d bc bs pc lv (.int x :: st) h n Post := by
  subst hp
  intro G p l e R s m args below meth c A ad0 n0 Q hc hr he H locs cells slots ls ad hm hl hx hbc hbs
  have hk := k G p l e R s m args below meth c A ad0 n0 Q hc hr he H locs cells slots ls ad hm (hl.stk (clc (cl1 hl.2.2) clV_long)) hx hbc hbs
  exact lv_i2l hc.1 hc.2.1 hdg rfl hk
theorem sw_i2b {x : Int32} (hp : pc + 1 = pc') (hdg : decode M.2.1 pc = .ok (.i2b, 1)) (k : SW SR M d bc bs pc' lv (.int x.toInt8.toInt32 :: st) h n Post) : SW SR M d bc bs pc lv (.int x :: st) h n Post := by
  subst hp
  intro G p l e R s m args below meth c A ad0 n0 Q hc hr he H locs cells slots ls ad hm hl hx hbc hbs
  have hk := k G p l e R s m args below meth c A ad0 n0 Q hc hr he H locs cells slots ls ad hm (hl.stk (clc (cl1 hl.2.2) clV_int)) hx hbc hbs
  exact lv_i2b hc.1 hc.2.1 hdg rfl hk
theorem sw_i2c {x : Int32} (hp : pc + 1 = pc') (hdg : decode M.2.1 pc = .ok (.i2c, 1)) (k : SW SR M d bc bs pc' lv (.int (x.toUInt32 % 65536).toInt32 :: st) h n Post) : SW SR M d bc bs pc lv (.int x :: st) h n Post := by
  subst hp
  intro G p l e R s m args below meth c A ad0 n0 Q hc hr he H locs cells slots ls ad hm hl hx hbc hbs
  have hk := k G p l e R s m args below meth c A ad0 n0 Q hc hr he H locs cells slots ls ad hm (hl.stk (clc (cl1 hl.2.2) clV_int)) hx hbc hbs
  exact lv_i2c hc.1 hc.2.1 hdg rfl hk
theorem sw_lcmp {x y : Int64} (hp : pc + 1 = pc') (hdg : decode M.2.1 pc = .ok (.lcmp, 1)) (k : SW SR M d bc bs pc' lv (.int (lg_cmp x y) :: st) h n Post) : SW SR M d bc bs pc lv (.long y :: .long x :: st) h n Post := by
  subst hp
  intro G p l e R s m args below meth c A ad0 n0 Q hc hr he H locs cells slots ls ad hm hl hx hbc hbs
  have hk := k G p l e R s m args below meth c A ad0 n0 Q hc hr he H locs cells slots ls ad hm (hl.stk (clc (cl2 hl.2.2) clV_int)) hx hbc hbs
  exact W.lcmp hc.1 hc.2.1 hdg hk
theorem sw_dup {v : Value} (hp : pc + 1 = pc') (hdg : decode M.2.1 pc = .ok (.dup, 1)) (hv : v.category = 1) (k : SW SR M d bc bs pc' lv (v :: v :: st) h n Post) : SW SR M d bc bs pc lv (v :: st) h n Post := by
  subst hp
  intro G p l e R s m args below meth c A ad0 n0 Q hc hr he H locs cells slots ls ad hm hl hx hbc hbs
  have hk := k G p l e R s m args below meth c A ad0 n0 Q hc hr he H locs cells slots ls ad hm (hl.stk (clc hl.2.2 (hl.2.2 _ List.mem_cons_self))) hx hbc hbs
  exact lv_dup hc.1 hc.2.1 hdg (em_cat.trans hv) hk
theorem sw_pop {v : Value} (hp : pc + 1 = pc') (hdg : decode M.2.1 pc = .ok (.pop, 1)) (hv : v.category = 1) (k : SW SR M d bc bs pc' lv (st) h n Post) : SW SR M d bc bs pc lv (v :: st) h n Post := by
  subst hp
  intro G p l e R s m args below meth c A ad0 n0 Q hc hr he H locs cells slots ls ad hm hl hx hbc hbs
  have hk := k G p l e R s m args below meth c A ad0 n0 Q hc hr he H locs cells slots ls ad hm (hl.stk (cl1 hl.2.2)) hx hbc hbs
  exact lv_pop hc.1 hc.2.1 hdg (em_cat.trans hv) hk
theorem sw_pop2 {v : Value} (hp : pc + 1 = pc') (hdg : decode M.2.1 pc = .ok (.pop2, 1)) (hv : v.category = 2) (k : SW SR M d bc bs pc' lv (st) h n Post) : SW SR M d bc bs pc lv (v :: st) h n Post := by
  subst hp
  intro G p l e R s m args below meth c A ad0 n0 Q hc hr he H locs cells slots ls ad hm hl hx hbc hbs
  have hk := k G p l e R s m args below meth c A ad0 n0 Q hc hr he H locs cells slots ls ad hm (hl.stk (cl1 hl.2.2)) hx hbc hbs
  exact lv_pop2_2 hc.1 hc.2.1 hdg (em_cat.trans hv) hk
theorem sw_dup_x1 {v u : Value} (hp : pc + 1 = pc') (hdg : decode M.2.1 pc = .ok (.dup_x1, 1)) (hv : v.category = 1) (hu : u.category = 1) (k : SW SR M d bc bs pc' lv (v :: u :: v :: st) h n Post) : SW SR M d bc bs pc lv (v :: u :: st) h n Post := by
  subst hp
  intro G p l e R s m args below meth c A ad0 n0 Q hc hr he H locs cells slots ls ad hm hl hx hbc hbs
  have hk := k G p l e R s m args below meth c A ad0 n0 Q hc hr he H locs cells slots ls ad hm (hl.stk (clc (clc (clc (cl2 hl.2.2) (hl.2.2 _ List.mem_cons_self)) (hl.2.2 _ (List.mem_cons_of_mem _ List.mem_cons_self))) (hl.2.2 _ List.mem_cons_self))) hx hbc hbs
  exact lv_dup_x1 hc.1 hc.2.1 hdg (em_cat.trans hv) (em_cat.trans hu) hk
theorem sw_dup2 {v u : Value} (hp : pc + 1 = pc') (hdg : decode M.2.1 pc = .ok (.dup2, 1)) (hv : v.category = 1) (hu : u.category = 1) (k : SW SR M d bc bs pc' lv (v :: u :: v :: u :: st) h n Post) : SW SR M d bc bs pc lv (v :: u :: st) h n Post := by
  subst hp
  intro G p l e R s m args below meth c A ad0 n0 Q hc hr he H locs cells slots ls ad hm hl hx hbc hbs
  have hk := k G p l e R s m args below meth c A ad0 n0 Q hc hr he H locs cells slots ls ad hm (hl.stk (clc (clc hl.2.2 (hl.2.2 _ (List.mem_cons_of_mem _ List.mem_cons_self))) (hl.2.2 _ List.mem_cons_self))) hx hbc hbs
  exact lv_dup2_11 hc.1 hc.2.1 hdg (em_cat.trans hv) (em_cat.trans hu) hk
theorem sw_null  (hp : pc + 1 = pc') (hdg : decode M.2.1 pc = .ok (.aconst_null, 1)) (k : SW SR M d bc bs pc' lv (.null :: st) h n Post) : SW SR M d bc bs pc lv (st) h n Post := by
  subst hp
  intro G p l e R s m args below meth c A ad0 n0 Q hc hr he H locs cells slots ls ad hm hl hx hbc hbs
  have hk := k G p l e R s m args below meth c A ad0 n0 Q hc hr he H locs cells slots ls ad hm (hl.stk (clc hl.2.2 clV_null)) hx hbc hbs
  exact lv_null hc.1 hc.2.1 hdg hk
theorem sw_if_eq {x : Int32} {off : Int} (hp : pc + 3 = pc') (hdg : decode M.2.1 pc = .ok (.ifCond .eq off, 3)) (ht : (pc : Int) + off = (tgt : Int)) (kt : x = 0 → SW SR M d bc bs tgt lv st h n Post) (kf : ¬ x = 0 → SW SR M d bc bs pc' lv st h n Post) : SW SR M d bc bs pc lv (.int x :: st) h n Post := by
  subst hp
  intro G p l e R s m args below meth c A ad0 n0 Q hc hr he H locs cells slots ls ad hm hl hx hbc hbs
  exact lv_if_eq hc.1 hc.2.1 hdg ht (fun z => kt z G p l e R s m args below meth c A ad0 n0 Q hc hr he H locs cells slots ls ad hm (hl.stk (cl1 hl.2.2)) hx hbc hbs) (fun z => kf z G p l e R s m args below meth c A ad0 n0 Q hc hr he H locs cells slots ls ad hm (hl.stk (cl1 hl.2.2)) hx hbc hbs)
theorem sw_icmp_eq {x y : Int32} {off : Int} (hp : pc + 3 = pc') (hdg : decode M.2.1 pc = .ok (.if_icmp .eq off, 3)) (ht : (pc : Int) + off = (tgt : Int)) (kt : x = y → SW SR M d bc bs tgt lv st h n Post) (kf : ¬ x = y → SW SR M d bc bs pc' lv st h n Post) : SW SR M d bc bs pc lv (.int y :: .int x :: st) h n Post := by
  subst hp
  intro G p l e R s m args below meth c A ad0 n0 Q hc hr he H locs cells slots ls ad hm hl hx hbc hbs
  exact lv_icmp_eq hc.1 hc.2.1 hdg ht (fun z => kt z G p l e R s m args below meth c A ad0 n0 Q hc hr he H locs cells slots ls ad hm (hl.stk (cl2 hl.2.2)) hx hbc hbs) (fun z => kf z G p l e R s m args below meth c A ad0 n0 Q hc hr he H locs cells slots ls ad hm (hl.stk (cl2 hl.2.2)) hx hbc hbs)
theorem sw_if_ne {x : Int32} {off : Int} (hp : pc + 3 = pc') (hdg : decode M.2.1 pc = .ok (.ifCond .ne off, 3)) (ht : (pc : Int) + off = (tgt : Int)) (kt : ¬ x = 0 → SW SR M d bc bs tgt lv st h n Post) (kf : x = 0 → SW SR M d bc bs pc' lv st h n Post) : SW SR M d bc bs pc lv (.int x :: st) h n Post := by
  subst hp
  intro G p l e R s m args below meth c A ad0 n0 Q hc hr he H locs cells slots ls ad hm hl hx hbc hbs
  exact lv_if_ne hc.1 hc.2.1 hdg ht (fun z => kt z G p l e R s m args below meth c A ad0 n0 Q hc hr he H locs cells slots ls ad hm (hl.stk (cl1 hl.2.2)) hx hbc hbs) (fun z => kf z G p l e R s m args below meth c A ad0 n0 Q hc hr he H locs cells slots ls ad hm (hl.stk (cl1 hl.2.2)) hx hbc hbs)
theorem sw_icmp_ne {x y : Int32} {off : Int} (hp : pc + 3 = pc') (hdg : decode M.2.1 pc = .ok (.if_icmp .ne off, 3)) (ht : (pc : Int) + off = (tgt : Int)) (kt : ¬ x = y → SW SR M d bc bs tgt lv st h n Post) (kf : x = y → SW SR M d bc bs pc' lv st h n Post) : SW SR M d bc bs pc lv (.int y :: .int x :: st) h n Post := by
  subst hp
  intro G p l e R s m args below meth c A ad0 n0 Q hc hr he H locs cells slots ls ad hm hl hx hbc hbs
  exact lv_icmp_ne hc.1 hc.2.1 hdg ht (fun z => kt z G p l e R s m args below meth c A ad0 n0 Q hc hr he H locs cells slots ls ad hm (hl.stk (cl2 hl.2.2)) hx hbc hbs) (fun z => kf z G p l e R s m args below meth c A ad0 n0 Q hc hr he H locs cells slots ls ad hm (hl.stk (cl2 hl.2.2)) hx hbc hbs)
theorem sw_if_lt {x : Int32} {off : Int} (hp : pc + 3 = pc') (hdg : decode M.2.1 pc = .ok (.ifCond .lt off, 3)) (ht : (pc : Int) + off = (tgt : Int)) (kt : x < 0 → SW SR M d bc bs tgt lv st h n Post) (kf : ¬ x < 0 → SW SR M d bc bs pc' lv st h n Post) : SW SR M d bc bs pc lv (.int x :: st) h n Post := by
  subst hp
  intro G p l e R s m args below meth c A ad0 n0 Q hc hr he H locs cells slots ls ad hm hl hx hbc hbs
  exact lv_if_lt hc.1 hc.2.1 hdg ht (fun z => kt z G p l e R s m args below meth c A ad0 n0 Q hc hr he H locs cells slots ls ad hm (hl.stk (cl1 hl.2.2)) hx hbc hbs) (fun z => kf z G p l e R s m args below meth c A ad0 n0 Q hc hr he H locs cells slots ls ad hm (hl.stk (cl1 hl.2.2)) hx hbc hbs)
theorem sw_icmp_lt {x y : Int32} {off : Int} (hp : pc + 3 = pc') (hdg : decode M.2.1 pc = .ok (.if_icmp .lt off, 3)) (ht : (pc : Int) + off = (tgt : Int)) (kt : x < y → SW SR M d bc bs tgt lv st h n Post) (kf : ¬ x < y → SW SR M d bc bs pc' lv st h n Post) : SW SR M d bc bs pc lv (.int y :: .int x :: st) h n Post := by
  subst hp
  intro G p l e R s m args below meth c A ad0 n0 Q hc hr he H locs cells slots ls ad hm hl hx hbc hbs
  exact lv_icmp_lt hc.1 hc.2.1 hdg ht (fun z => kt z G p l e R s m args below meth c A ad0 n0 Q hc hr he H locs cells slots ls ad hm (hl.stk (cl2 hl.2.2)) hx hbc hbs) (fun z => kf z G p l e R s m args below meth c A ad0 n0 Q hc hr he H locs cells slots ls ad hm (hl.stk (cl2 hl.2.2)) hx hbc hbs)
theorem sw_if_ge {x : Int32} {off : Int} (hp : pc + 3 = pc') (hdg : decode M.2.1 pc = .ok (.ifCond .ge off, 3)) (ht : (pc : Int) + off = (tgt : Int)) (kt : 0 ≤ x → SW SR M d bc bs tgt lv st h n Post) (kf : ¬ 0 ≤ x → SW SR M d bc bs pc' lv st h n Post) : SW SR M d bc bs pc lv (.int x :: st) h n Post := by
  subst hp
  intro G p l e R s m args below meth c A ad0 n0 Q hc hr he H locs cells slots ls ad hm hl hx hbc hbs
  exact lv_if_ge hc.1 hc.2.1 hdg ht (fun z => kt z G p l e R s m args below meth c A ad0 n0 Q hc hr he H locs cells slots ls ad hm (hl.stk (cl1 hl.2.2)) hx hbc hbs) (fun z => kf z G p l e R s m args below meth c A ad0 n0 Q hc hr he H locs cells slots ls ad hm (hl.stk (cl1 hl.2.2)) hx hbc hbs)
theorem sw_icmp_ge {x y : Int32} {off : Int} (hp : pc + 3 = pc') (hdg : decode M.2.1 pc = .ok (.if_icmp .ge off, 3)) (ht : (pc : Int) + off = (tgt : Int)) (kt : y ≤ x → SW SR M d bc bs tgt lv st h n Post) (kf : ¬ y ≤ x → SW SR M d bc bs pc' lv st h n Post) : SW SR M d bc bs pc lv (.int y :: .int x :: st) h n Post := by
  subst hp
  intro G p l e R s m args below meth c A ad0 n0 Q hc hr he H locs cells slots ls ad hm hl hx hbc hbs
  exact lv_icmp_ge hc.1 hc.2.1 hdg ht (fun z => kt z G p l e R s m args below meth c A ad0 n0 Q hc hr he H locs cells slots ls ad hm (hl.stk (cl2 hl.2.2)) hx hbc hbs) (fun z => kf z G p l e R s m args below meth c A ad0 n0 Q hc hr he H locs cells slots ls ad hm (hl.stk (cl2 hl.2.2)) hx hbc hbs)
theorem sw_if_gt {x : Int32} {off : Int} (hp : pc + 3 = pc') (hdg : decode M.2.1 pc = .ok (.ifCond .gt off, 3)) (ht : (pc : Int) + off = (tgt : Int)) (kt : 0 < x → SW SR M d bc bs tgt lv st h n Post) (kf : ¬ 0 < x → SW SR M d bc bs pc' lv st h n Post) : SW SR M d bc bs pc lv (.int x :: st) h n Post := by
  subst hp
  intro G p l e R s m args below meth c A ad0 n0 Q hc hr he H locs cells slots ls ad hm hl hx hbc hbs
  exact lv_if_gt hc.1 hc.2.1 hdg ht (fun z => kt z G p l e R s m args below meth c A ad0 n0 Q hc hr he H locs cells slots ls ad hm (hl.stk (cl1 hl.2.2)) hx hbc hbs) (fun z => kf z G p l e R s m args below meth c A ad0 n0 Q hc hr he H locs cells slots ls ad hm (hl.stk (cl1 hl.2.2)) hx hbc hbs)
theorem sw_icmp_gt {x y : Int32} {off : Int} (hp : pc + 3 = pc') (hdg : decode M.2.1 pc = .ok (.if_icmp .gt off, 3)) (ht : (pc : Int) + off = (tgt : Int)) (kt : y < x → SW SR M d bc bs tgt lv st h n Post) (kf : ¬ y < x → SW SR M d bc bs pc' lv st h n Post) : SW SR M d bc bs pc lv (.int y :: .int x :: st) h n Post := by
  subst hp
  intro G p l e R s m args below meth c A ad0 n0 Q hc hr he H locs cells slots ls ad hm hl hx hbc hbs
  exact lv_icmp_gt hc.1 hc.2.1 hdg ht (fun z => kt z G p l e R s m args below meth c A ad0 n0 Q hc hr he H locs cells slots ls ad hm (hl.stk (cl2 hl.2.2)) hx hbc hbs) (fun z => kf z G p l e R s m args below meth c A ad0 n0 Q hc hr he H locs cells slots ls ad hm (hl.stk (cl2 hl.2.2)) hx hbc hbs)
theorem sw_if_le {x : Int32} {off : Int} (hp : pc + 3 = pc') (hdg : decode M.2.1 pc = .ok (.ifCond .le off, 3)) (ht : (pc : Int) + off = (tgt : Int)) (kt : x ≤ 0 → SW SR M d bc bs tgt lv st h n Post) (kf : ¬ x ≤ 0 → SW SR M d bc bs pc' lv st h n Post) : SW SR M d bc bs pc lv (.int x :: st) h n Post := by
  subst hp
  intro G p l e R s m args below meth c A ad0 n0 Q hc hr he H locs cells slots ls ad hm hl hx hbc hbs
  exact lv_if_le hc.1 hc.2.1 hdg ht (fun z => kt z G p l e R s m args below meth c A ad0 n0 Q hc hr he H locs cells slots ls ad hm (hl.stk (cl1 hl.2.2)) hx hbc hbs) (fun z => kf z G p l e R s m args below meth c A ad0 n0 Q hc hr he H locs cells slots ls ad hm (hl.stk (cl1 hl.2.2)) hx hbc hbs)
theorem sw_icmp_le {x y : Int32} {off : Int} (hp : pc + 3 = pc') (hdg : decode M.2.1 pc = .ok (.if_icmp .le off, 3)) (ht : (pc : Int) + off = (tgt : Int)) (kt : x ≤ y → SW SR M d bc bs tgt lv st h n Post) (kf : ¬ x ≤ y → SW SR M d bc bs pc' lv st h n Post) : SW SR M d bc bs pc lv (.int y :: .int x :: st) h n Post := by
  subst hp
  intro G p l e R s m args below meth c A ad0 n0 Q hc hr he H locs cells slots ls ad hm hl hx hbc hbs
  exact lv_icmp_le hc.1 hc.2.1 hdg ht (fun z => kt z G p l e R s m args below meth c A ad0 n0 Q hc hr he H locs cells slots ls ad hm (hl.stk (cl2 hl.2.2)) hx hbc hbs) (fun z => kf z G p l e R s m args below meth c A ad0 n0 Q hc hr he H locs cells slots ls ad hm (hl.stk (cl2 hl.2.2)) hx hbc hbs)
theorem sw_goto {off : Int} (hdg : decode M.2.1 pc = .ok (.goto off, 3)) (ht : (pc : Int) + off = (tgt : Int)) (k : SW SR M d bc bs tgt lv st h n Post) : SW SR M d bc bs pc lv st h n Post := by
  intro G p l e R s m args below meth c A ad0 n0 Q hc hr he H locs cells slots ls ad hm hl hx hbc hbs
  exact lv_goto hc.1 hc.2.1 hdg ht (k G p l e R s m args below meth c A ad0 n0 Q hc hr he H locs cells slots ls ad hm hl hx hbc hbs)
theorem sw_tableOut {dflt lo hi : Int} {offs : Array Int} {len : Nat} {x : Int32} (hdg : decode M.2.1 pc = .ok (.tableswitch dflt lo hi offs, len)) (hz : x.toInt < lo ∨ hi < x.toInt) (ht : (pc : Int) + dflt = (tgt : Int)) (k : SW SR M d bc bs tgt lv st h n Post) : SW SR M d bc bs pc lv (.int x :: st) h n Post := by
  intro G p l e R s m args below meth c A ad0 n0 Q hc hr he H locs cells slots ls ad hm hl hx hbc hbs
  exact lv_tableOut hc.1 hc.2.1 hdg hz ht (k G p l e R s m args below meth c A ad0 n0 Q hc hr he H locs cells slots ls ad hm (hl.stk (cl1 hl.2.2)) hx hbc hbs)
theorem sw_tableIn {dflt lo hi : Int} {offs : Array Int} {len : Nat} {x : Int32} {off : Int} (hdg : decode M.2.1 pc = .ok (.tableswitch dflt lo hi offs, len)) (h1 : ¬ x.toInt < lo) (h2 : ¬ hi < x.toInt) (ho : offs[(x.toInt - lo).toNat]? = some off) (ht : (pc : Int) + off = (tgt : Int)) (k : SW SR M d bc bs tgt lv st h n Post) : SW SR M d bc bs pc lv (.int x :: st) h n Post := by
  intro G p l e R s m args below meth c A ad0 n0 Q hc hr he H locs cells slots ls ad hm hl hx hbc hbs
  exact lv_tableIn hc.1 hc.2.1 hdg h1 h2 ho ht (k G p l e R s m args below meth c A ad0 n0 Q hc hr he H locs cells slots ls ad hm (hl.stk (cl1 hl.2.2)) hx hbc hbs)
theorem sw_ifnull {x : Nat} {off : Int} (hp : pc + 3 = pc') (hdg : decode M.2.1 pc = .ok (.ifnull off, 3)) (k : SW SR M d bc bs pc' lv st h n Post) : SW SR M d bc bs pc lv (.ref x :: st) h n Post := by
  subst hp
  intro G p l e R s m args below meth c A ad0 n0 Q hc hr he H locs cells slots ls ad hm hl hx hbc hbs
  exact lv_ifnull hc.1 hc.2.1 hdg (k G p l e R s m args below meth c A ad0 n0 Q hc hr he H locs cells slots ls ad hm (hl.stk (cl1 hl.2.2)) hx hbc hbs)
theorem sw_ifnonnullN  {off : Int} (hp : pc + 3 = pc') (hdg : decode M.2.1 pc = .ok (.ifnonnull off, 3)) (k : SW SR M d bc bs pc' lv st h n Post) : SW SR M d bc bs pc lv (.null :: st) h n Post := by
  subst hp
  intro G p l e R s m args below meth c A ad0 n0 Q hc hr he H locs cells slots ls ad hm hl hx hbc hbs
  exact lv_ifnonnullN hc.1 hc.2.1 hdg (k G p l e R s m args below meth c A ad0 n0 Q hc hr he H locs cells slots ls ad hm (hl.stk (cl1 hl.2.2)) hx hbc hbs)
theorem sw_ifnonnull {x : Nat} {off : Int} (hdg : decode M.2.1 pc = .ok (.ifnonnull off, 3)) (ht : (pc : Int) + off = (tgt : Int)) (k : SW SR M d bc bs tgt lv st h n Post) : SW SR M d bc bs pc lv (.ref x :: st) h n Post := by
  intro G p l e R s m args below meth c A ad0 n0 Q hc hr he H locs cells slots ls ad hm hl hx hbc hbs
  exact lv_ifnonnull hc.1 hc.2.1 hdg ht (k G p l e R s m args below meth c A ad0 n0 Q hc hr he H locs cells slots ls ad hm (hl.stk (cl1 hl.2.2)) hx hbc hbs)
theorem sw_ifnullN  {off : Int} (hdg : decode M.2.1 pc = .ok (.ifnull off, 3)) (ht : (pc : Int) + off = (tgt : Int)) (k : SW SR M d bc bs tgt lv st h n Post) : SW SR M d bc bs pc lv (.null :: st) h n Post := by
  intro G p l e R s m args below meth c A ad0 n0 Q hc hr he H locs cells slots ls ad hm hl hx hbc hbs
  exact lv_ifnullN hc.1 hc.2.1 hdg ht (k G p l e R s m args below meth c A ad0 n0 Q hc hr he H locs cells slots ls ad hm (hl.stk (cl1 hl.2.2)) hx hbc hbs)
theorem sw_ldc2 {index : Nat} {v : Int64} (hp : pc + 3 = pc') (hdg : decode M.2.1 pc = .ok (.ldc2_w index, 3)) (hw : Cond.constantLong M.1.cls index v ∈ GT) (k : SW SR M d bc bs pc' lv (.long v :: st) h n Post) : SW SR M d bc bs pc lv st h n Post := by
  subst hp
  intro G p l e R s m args below meth c A ad0 n0 Q hc hr he H locs cells slots ls ad hm hl hx hbc hbs
  exact lv_ldc2 hc.1 hc.2.1 hc.2.2.2.2.1 (hc.2.2.2.2.2.1 _ hw) hdg (k G p l e R s m args below meth c A ad0 n0 Q hc hr he H locs cells slots ls ad hm (hl.stk (clc hl.2.2 clV_long)) hx hbc hbs)
theorem sw_ldci {index : Nat} {v : Int32} (hp : pc + 2 = pc') (hdg : decode M.2.1 pc = .ok (.ldc index, 2)) (hw : Cond.constant M.1.cls index v ∈ GT) (k : SW SR M d bc bs pc' lv (.int v :: st) h n Post) : SW SR M d bc bs pc lv st h n Post := by
  subst hp
  intro G p l e R s m args below meth c A ad0 n0 Q hc hr he H locs cells slots ls ad hm hl hx hbc hbs
  exact lv_ldc hc.1 hc.2.1 hc.2.2.2.2.1 (hc.2.2.2.2.2.1 _ hw) hdg (k G p l e R s m args below meth c A ad0 n0 Q hc hr he H locs cells slots ls ad hm (hl.stk (clc hl.2.2 clV_int)) hx hbc hbs)
theorem sw_ldciw {index : Nat} {v : Int32} (hp : pc + 3 = pc') (hdg : decode M.2.1 pc = .ok (.ldc_w index, 3)) (hw : Cond.constant M.1.cls index v ∈ GT) (k : SW SR M d bc bs pc' lv (.int v :: st) h n Post) : SW SR M d bc bs pc lv st h n Post := by
  subst hp
  intro G p l e R s m args below meth c A ad0 n0 Q hc hr he H locs cells slots ls ad hm hl hx hbc hbs
  exact lv_ldcw hc.1 hc.2.1 hc.2.2.2.2.1 (hc.2.2.2.2.2.1 _ hw) hdg (k G p l e R s m args below meth c A ad0 n0 Q hc hr he H locs cells slots ls ad hm (hl.stk (clc hl.2.2 clV_int)) hx hbc hbs)
theorem sw_ldcs {index i : Nat} {tx : String} (hp : pc + 2 = pc') (hdg : decode M.2.1 pc = .ok (.ldc index, 2)) (hw : (M.1.cls, index, tx, i) ∈ SR) (hi : i < nC) (k : SW SR M d bc bs pc' lv (.ref i :: st) h n Post) : SW SR M d bc bs pc lv st h n Post := by
  subst hp
  intro G p l e R s m args below meth c A ad0 n0 Q hc hr he H locs cells slots ls ad hm hl hx hbc hbs
  have hz := hc.2.2.2.2.2.2.2.2.2.2.2.2.1 _ hw
  rw [← (hm.2.2.2.2.2 i hi).2.1] at hz
  exact va_ldcS hc.1 hc.2.1 hc.2.2.2.2.1 hz hdg (k G p l e R s m args below meth c A ad0 n0 Q hc hr he H locs cells slots ls ad hm (hl.stk (clc hl.2.2 (fun j hj => by cases hj; exact Nat.lt_of_lt_of_le hi hm.lt))) hx hbc hbs)
theorem sw_ret {v : Option Value} (hr9 : RetAt M pc v) (hP : Post (.inl v) h n) : SW SR M d bc bs pc lv v.toList h n Post := by
  intro G p l e R s m args below meth c A ad0 n0 Q hc hr he H locs cells slots ls ad hm hl hx hbc hbs
  have h9 := he.1 H locs cells slots ls ad h n v pc hm hx (fun v' e => hl.2.2 v' (by rw [e]; exact List.mem_cons_self)) hP (by omega) (by omega) hr9
  cases v <;> exact h9
theorem sw_conseq {Post' : ARes → AH → Nat → Prop} (k : SW SR M d bc bs pc lv st h n Post') (hPP : ∀ r h n, Post' r h n → Post r h n) : SW SR M d bc bs pc lv st h n Post := by
  intro G p l e R s m args below meth c A ad0 n0 Q hc hr he H locs cells slots ls ad hm hl hx hbc hbs
  exact k G p l e R s m args below meth c A ad0 n0 Q hc hr ⟨fun H locs cells slots ls ad h n v pc a1 a2 a3 a4 => he.1 H locs cells slots ls ad h n v pc a1 a2 a3 (hPP _ _ _ a4), fun H locs ad h n E a1 a2 a3 => he.2 H locs ad h n E a1 a2 (hPP _ _ _ a3)⟩ H locs cells slots ls ad hm hl hx hbc hbs
/-- the constants are what they are -/
theorem sw_known (k : (nC ≤ n ∧ (∀ i, nC ≤ i → i < n → clE n (h i)) ∧ (∀ v ∈ st, clV n v) ∧ ∀ q ∈ lv, clV n q.2) → SW SR M d bc bs pc lv st h n Post) : SW SR M d bc bs pc lv st h n Post := by
  intro G p l e R s m args below meth c A ad0 n0 Q hc hr he H locs cells slots ls ad hm hl hx hbc hbs
  exact k ⟨hm.lt, hm.2.2.2.2.1, hl.2.2, hl.2.1⟩ G p l e R s m args below meth c A ad0 n0 Q hc hr he H locs cells slots ls ad hm hl hx hbc hbs
theorem sw_bud {bc' bs' : Nat} (k : SW SR M d bc' bs' pc lv st h n Post) (h1 : bc' ≤ bc) (h2 : bs' ≤ bs) : SW SR M d bc bs pc lv st h n Post := by
  intro G p l e R s m args below meth c A ad0 n0 Q hc hr he H locs cells slots ls ad hm hl hx hbc hbs
  exact k G p l e R s m args below meth c A ad0 n0 Q hc hr he H locs cells slots ls ad hm hl hx (by omega) (by omega)
theorem sw_loc {lv' : List (Nat × Value)} (k : SW SR M d bc bs pc lv' st h n Post) (hs : ∀ q ∈ lv', q ∈ lv) : SW SR M d bc bs pc lv st h n Post := by
  intro G p l e R s m args below meth c A ad0 n0 Q hc hr he H locs cells slots ls ad hm hl hx hbc hbs
  exact k G p l e R s m args below meth c A ad0 n0 Q hc hr he H locs cells slots ls ad hm ⟨⟨hl.1.1, hl.1.2.1, fun q hq => by
    obtain ⟨z, hz, rfl⟩ := List.mem_map.mp hq
    exact hl.1.2.2 _ (List.mem_map.mpr ⟨z, hs z hz, rfl⟩)⟩, fun q hq => hl.2.1 q (hs q hq), hl.2.2⟩ hx hbc hbs
end
