/-! methods of a class of which natives stand for some: none stands for these -/
section
variable {l : Launch}
theorem vf_ofW {y : MethodName} {ws ws' : List Cond} {rm : Room} {Pc : Array Value → State → Prop} {Qc : Array Value → State → Outcome → State → Prop} {XC : String → State → State → Prop} {mc ms : Nat} {free : Addr → Prop} {cc : ByteArray} {maxL : Nat} {ret : Option FieldType}
    (hy : plainFor y = true) (hw : ws = Cond.code y cc maxL ret :: ws')
    (body : ∀ p e s m args below meth c s₁, BodyLoose p l y (headSpec ws rm) cc maxL ret e s m args below meth c s₁ → c.maxLocals = maxL → (∀ x ∈ c.exceptionTable.toList, False) → Pc args s →
      W p l e (headSpec ws rm).room s m args below meth c s.heap [] 0 0 (vx_MQ below Qc XC args s mc ms free) (entryFrame m args maxL)) : vx_Met l y ws rm Pc Qc XC mc ms free := by
  refine MetFree.of_bodySF (code := cc) (maxLocals := maxL) (ret := ret) hy ?_ ?_
  · intro args s m h hn
    obtain ⟨meth, c, h1, h2, h3, h4, h5, h6, -, -⟩ := Cond.code_spec hn (atoms_spec (ws := ws) h _ (by rw [hw]; exact List.mem_cons_self))
    exact ⟨meth, c, h1, h2, h3, h4, h5, h6⟩
  · intro p e s m args below meth c s₁ B hml hP _
    have hh0 : s₁.heap = s.heap := by rw [B.state]; rfl
    have ht : ∀ x ∈ c.exceptionTable.toList, False := by
      obtain ⟨meth9, c9, h1, h2, -, -, -, -, h7, -⟩ := Cond.code_spec B.named (atoms_spec (ws := ws) B.pre _ (by rw [hw]; exact List.mem_cons_self))
      cases Option.some.inj (h1.symm.trans B.method)
      cases Option.some.inj (h2.symm.trans (Stand.of_body B).code)
      intro x hx
      rw [Array.isEmpty_iff.mp h7] at hx
      cases hx
    obtain ⟨t, a1, o, b1, b2, b3⟩ := body p e s m args below meth c s₁ B hml ht hP s₁ hh0 (Stand.of_body B)
    exact ⟨t, o, a1, b1, b2, b3⟩
end
section
variable {SR : SRT} {M : MI}
theorem sm_ofF {d bc bs : Nat} {as : List Value} {h : AH} {n : Nat} {Post : ARes → AH → Nat → Prop} (hy : plainFor M.1 = true) (hM : M.2.2.2.2 = []) (hlen : (lg_sl as).length ≤ M.2.2.1)
    (k : SW SR M d bc bs 0 (lv_args 0 as) [] h n Post) : SM SR M d bc bs as h n Post := by
  intro l hl G ad sz has
  have hcw : cwM M = Cond.code M.1 M.2.1 M.2.2.1 M.2.2.2.1 := by unfold cwM; rw [if_pos hM]
  refine vf_ofW (cc := M.2.1) (maxL := M.2.2.1) (ret := M.2.2.2.1) (ws' := GT) hy (by rw [← hcw]; rfl) ?_
  intro p e s m args below meth c s₁ B hml ht hv
  obtain ⟨rfl, hv⟩ := hv
  have hts := atoms_spec (ws := wsM M) B.pre
  have hcx : CX SR G M p l s m ((as.map (em ad)).toArray) meth c (va_A (wsH G ad h n) sz) := by
    refine ⟨B.exec, B.bytes, B.returns, hml, findClass_of_methodNamed B.named, fun w hw => hts w (List.mem_cons_of_mem _ hw), B.notSynchronized, ?_, hl, fun q => (name_of_methodNamed B.named B.method).1.trans q, hv.2.2.2.2.2.2.1, hv.2.2.2.2.2.2.2.1, hv.2.2.2.2.2.2.2.2.1, hv.2.2.2.2.2.2.2.2.2.1, hv.2.2.2.2.2.2.2.2.2.2, fun q hq => Or.inr (by rw [← hv.1]; exact hq)⟩
    rw [hM]
    exact List.eq_nil_iff_forall_not_mem.mpr ht
  have hl9 := lv_entry (as.map (em ad)) (n := M.2.2.1) (by rw [lg_sl_len]; exact hlen)
  rw [lg_entry_eq]
  refine k G p l e (headSpec (wsM M) (rmOf d bc bs)).room s m _ below meth c _ ad n _ hcx ⟨Nat.le_refl _, Nat.le_refl _⟩ (en_of (d := d) (bc := bc) (bs := bs) (h0 := h) hcx) _ _ 0 0 _ ad (hm_entry hv) ⟨?_, lv_args_cl as 0 has, fun v hv => by cases hv⟩ Ext.rf (by show 0 + bc ≤ bc; omega) (by show 0 + bs ≤ bs; omega)
  rw [← lv_args_map]
  exact hl9
end
theorem mth_nat : ∀ r ∈ Jvm.natives, r.cls = "java/lang/Math" → r.desc ≠ "(II)I" := by decide +kernel
theorem pf_of {y : MethodName} (hc : y.cls = "java/lang/Math") (hd : y.desc = "(II)I") : plainFor y = true := by
  have e : NativeRow.find? Jvm.natives y.cls y.name y.desc = none := by
    unfold NativeRow.find?
    rw [List.find?_eq_none]
    intro r hr hp
    simp only [Bool.and_eq_true, beq_iff_eq] at hp
    exact mth_nat r hr (hp.1.2.trans hc) (hp.2.trans hd)
  unfold plainFor
  rw [e, Option.isNone_none, Bool.or_true]
def fmI (x y : Int32) : Int32 := if 0 ≤ x ^^^ y then x - x / y * y else if x - x / y * y = 0 then x - x / y * y else x - x / y * y + y
theorem m_min {h : AH} {d bc bs n : Nat} {x y : Int32} : SM SR0 MJ9_min_7cf53 d bc bs [.int x, .int y] h n (Det (rI (minI x y)) h n) := by
  refine sm_ofF (pf_of rfl rfl) rfl (Nat.le_of_ble_eq_true rfl) ?_
  refine sw_iload_n (pc' := 1) rfl dJ9_min_7cf53_0 rfl ?_
  refine sw_iload_n (pc' := 2) rfl dJ9_min_7cf53_1 rfl ?_
  refine sw_icmp_gt (pc' := 5) (tgt := 9) rfl dJ9_min_7cf53_2 (by decide +kernel) (fun c2 => ?_) (fun c2 => ?_)
  · refine sw_iload_n (pc' := 10) rfl dJ9_min_7cf53_9 rfl ?_
    refine sw_ret (v := some _) ⟨dJ9_min_7cf53_10, _, rfl, rfl⟩ ?_
    exact ⟨by rw [minI, if_pos c2]; rfl, rfl, rfl⟩
  · refine sw_iload_n (pc' := 6) rfl dJ9_min_7cf53_5 rfl ?_
    refine sw_goto (tgt := 10) dJ9_min_7cf53_6 (by decide +kernel) ?_
    refine sw_ret (v := some _) ⟨dJ9_min_7cf53_10, _, rfl, rfl⟩ ?_
    exact ⟨by rw [minI, if_neg c2]; rfl, rfl, rfl⟩
theorem m_max {h : AH} {d bc bs n : Nat} {x y : Int32} : SM SR0 MJ9_max_7cf53 d bc bs [.int x, .int y] h n (Det (rI (maxI x y)) h n) := by
  refine sm_ofF (pf_of rfl rfl) rfl (Nat.le_of_ble_eq_true rfl) ?_
  refine sw_iload_n (pc' := 1) rfl dJ9_max_7cf53_0 rfl ?_
  refine sw_iload_n (pc' := 2) rfl dJ9_max_7cf53_1 rfl ?_
  refine sw_icmp_lt (pc' := 5) (tgt := 9) rfl dJ9_max_7cf53_2 (by decide +kernel) (fun c2 => ?_) (fun c2 => ?_)
  · refine sw_iload_n (pc' := 10) rfl dJ9_max_7cf53_9 rfl ?_
    refine sw_ret (v := some _) ⟨dJ9_max_7cf53_10, _, rfl, rfl⟩ ?_
    exact ⟨by rw [maxI, if_pos c2]; rfl, rfl, rfl⟩
  · refine sw_iload_n (pc' := 6) rfl dJ9_max_7cf53_5 rfl ?_
    refine sw_goto (tgt := 10) dJ9_max_7cf53_6 (by decide +kernel) ?_
    refine sw_ret (v := some _) ⟨dJ9_max_7cf53_10, _, rfl, rfl⟩ ?_
    exact ⟨by rw [maxI, if_neg c2]; rfl, rfl, rfl⟩
theorem l_end {h : AH} {σ : CS} {d bc bs n k : Nat} {a y : Int32} (hR : RC h σ) (hk : k < 11) (hd : 1 ≤ d) (m : Nat) : ∀ (j : Nat) (v : Int32), j + m = σ.2.1 k → SW SR0 MX3_end d bc bs 37 [(5, .int (nI j)), (4, .int v), (3, .ref (102 + 2 * k)), (0, .ref 100), (1, .int a), (2, .int y)] [] h n (CP h n (rI (edN y (σ.1 k) j m v), σ)) := by
  have hc := (hR.sh hk).2.2.1
  induction m with
  | zero =>
    intro j v hj
    have hjc : σ.2.1 k = j := by omega
    refine sw_iload (pc' := 39) rfl dX3_end_37 rfl ?_
    refine sw_aload_n (pc' := 40) rfl dX3_end_39 rfl ?_
    refine sw_getf (ci := 2) (k := 2) (pc' := 43) rfl dX3_end_40 (by decide +kernel) w_84 (hR.sh hk).1 rfl ?_
    refine sw_icmp_ge (pc' := 46) (tgt := 83) rfl dX3_end_43 (by decide +kernel) (fun c43 => ?_) (fun c43 => ?_)
    · refine sw_iload (pc' := 85) rfl dX3_end_83 rfl ?_
      refine sw_ret (v := some _) ⟨dX3_end_85, _, rfl, rfl⟩ ?_
      exact ⟨rfl, rfl, hR, FrC.rf⟩
    · exact absurd (by rw [hjc]; exact Int32.le_refl _) c43
  | succ m ih =>
    intro j v hj
    have e1 := taI_in (f := σ.1 k) (c := σ.2.1 k) (j := j) (by omega) hc
    refine sw_iload (pc' := 39) rfl dX3_end_37 rfl ?_
    refine sw_aload_n (pc' := 40) rfl dX3_end_39 rfl ?_
    refine sw_getf (ci := 2) (k := 2) (pc' := 43) rfl dX3_end_40 (by decide +kernel) w_84 (hR.sh hk).1 rfl ?_
    refine sw_icmp_ge (pc' := 46) (tgt := 83) rfl dX3_end_43 (by decide +kernel) (fun c43 => ?_) (fun c43 => ?_)
    · exact absurd c43 (nI_ge (by omega) (by omega))
    · refine sw_aload_n (pc' := 47) rfl dX3_end_46 rfl ?_
      refine sw_iload (pc' := 49) rfl dX3_end_47 rfl ?_
      refine sw_V (M' := MX1_thingAt) (d' := d - 1) (bc' := 0) (bs' := 0) (ci := 2) (as := [_]) dX3_end_49 w_230 ok_X1_thingAt (m_thingAt (hR.sh hk)) (hR.sh hk).1 rfl (by omega) (Nat.le_of_ble_eq_true rfl) (Nat.zero_le _) (Nat.zero_le _) (fun E h' n' _ z => det_x z) (det_k ?_)
      refine sw_istore (pc' := 54) (lv' := [(6, _), (5, _), (4, _), (3, _), (0, _), (1, _), (2, _)]) rfl dX3_end_52 (by decide +kernel) rfl ?_
      refine sw_iload_n (pc' := 55) rfl dX3_end_54 rfl ?_
      refine sw_if_eq (pc' := 58) (tgt := 68) rfl dX3_end_55 (by decide +kernel) (fun c55 => ?_) (fun c55 => ?_)
      · refine sw_iload (pc' := 70) rfl dX3_end_68 rfl ?_
        refine sw_iload (pc' := 72) rfl dX3_end_70 rfl ?_
        refine sw_S (M' := MJ9_max_7cf53) (d' := d - 1) (bc' := 0) (bs' := 0) (as := [_, _]) dX3_end_72 w_1068 ok_J9_max_7cf53 (m_max) (by omega) (Nat.le_of_ble_eq_true rfl) (Nat.zero_le _) (Nat.zero_le _) (fun E h' n' _ z => det_x z) (det_k ?_)
        refine sw_istore (pc' := 77) (lv' := [(4, _), (6, _), (5, _), (3, _), (0, _), (1, _), (2, _)]) rfl dX3_end_75 (by decide +kernel) rfl ?_
        refine sw_iinc (pc' := 80) (lv' := [(5, _), (4, _), (6, _), (3, _), (0, _), (1, _), (2, _)]) (v := nI (j + 1)) rfl dX3_end_77 rfl (nI_succ j).symm (by decide +kernel) rfl ?_
        refine sw_goto (tgt := 37) dX3_end_80 (by decide +kernel) ?_
        rw [edN, if_pos c55, e1]
        refine sw_loc (lv' := [(5, .int (nI (j + 1))), (4, .int (maxI v (σ.1 k j))), (3, .ref (102 + 2 * k)), (0, .ref 100), (1, .int a), (2, .int y)]) ?_ (by intro q hq; simp only [List.mem_cons, List.not_mem_nil, or_false] at hq; rcases hq with rfl | rfl | rfl | rfl | rfl | rfl <;> simp)
        exact ih (j + 1) _ (by omega)
      · refine sw_iload (pc' := 60) rfl dX3_end_58 rfl ?_
        refine sw_iload (pc' := 62) rfl dX3_end_60 rfl ?_
        refine sw_S (M' := MJ9_min_7cf53) (d' := d - 1) (bc' := 0) (bs' := 0) (as := [_, _]) dX3_end_62 w_1067 ok_J9_min_7cf53 (m_min) (by omega) (Nat.le_of_ble_eq_true rfl) (Nat.zero_le _) (Nat.zero_le _) (fun E h' n' _ z => det_x z) (det_k ?_)
        refine sw_goto (tgt := 75) dX3_end_65 (by decide +kernel) ?_
        refine sw_istore (pc' := 77) (lv' := [(4, _), (6, _), (5, _), (3, _), (0, _), (1, _), (2, _)]) rfl dX3_end_75 (by decide +kernel) rfl ?_
        refine sw_iinc (pc' := 80) (lv' := [(5, _), (4, _), (6, _), (3, _), (0, _), (1, _), (2, _)]) (v := nI (j + 1)) rfl dX3_end_77 rfl (nI_succ j).symm (by decide +kernel) rfl ?_
        refine sw_goto (tgt := 37) dX3_end_80 (by decide +kernel) ?_
        rw [edN, if_neg c55, e1]
        refine sw_loc (lv' := [(5, .int (nI (j + 1))), (4, .int (minI v (σ.1 k j))), (3, .ref (102 + 2 * k)), (0, .ref 100), (1, .int a), (2, .int y)]) ?_ (by intro q hq; simp only [List.mem_cons, List.not_mem_nil, or_false] at hq; rcases hq with rfl | rfl | rfl | rfl | rfl | rfl <;> simp)
        exact ih (j + 1) _ (by omega)
theorem m_end {h : AH} {σ : CS} {d bc bs n : Nat} {a y : Int32} (hR : RC h σ) (hd : 6 ≤ d) (hb1 : 20 ≤ bc) (hb2 : 200 ≤ bs) : SM SR0 MX3_end d bc bs [.ref 100, .int a, .int y] h n (CP h n (opEnd σ a y)) := by
  refine sm_of pn_Overwalks rfl (Nat.le_of_ble_eq_true rfl) ?_
  refine sw_aload_n (pc' := 1) rfl dX3_end_0 rfl ?_
  refine sw_iload_n (pc' := 2) rfl dX3_end_1 rfl ?_
  rcases idxN 11 (by decide +kernel) a with q2 | ⟨k2, hk2, q2⟩
  · refine sw_V (M' := MX3_shelfAt) (d' := d - 1) (bc' := 1) (bs' := 6) (ci := 4) (as := [_]) dX3_end_2 w_402 ok_X3_shelfAt (m_shelfAt_x hR (Nat.le_refl _) (Nat.le_refl _) q2) hR.1 rfl (by omega) (Nat.le_of_ble_eq_true rfl) (by omega) (by omega) (dx_x (swx_out rfl ?_)) (fun v h' n' _ z => dx_k z)
    rw [opEnd, onSh_x q2]
    exact ⟨rfl, rfl, hR, FrC.rf⟩
  subst q2
  refine sw_V (M' := MX3_shelfAt) (d' := d - 1) (bc' := 1) (bs' := 6) (ci := 4) (as := [_]) dX3_end_2 w_402 ok_X3_shelfAt (m_shelfAt_k hR (Nat.le_refl _) (Nat.le_refl _) hk2) hR.1 rfl (by omega) (Nat.le_of_ble_eq_true rfl) (by omega) (by omega) (fun E h' n' _ z => det_x z) (det_k ?_)
  refine sw_astore_n (pc' := 6) (lv' := [(3, _), (0, _), (1, _), (2, _)]) rfl dX3_end_5 (by decide +kernel) rfl ?_
  refine sw_aload_n (pc' := 7) rfl dX3_end_6 rfl ?_
  refine sw_getf (ci := 2) (k := 2) (pc' := 10) rfl dX3_end_7 (by decide +kernel) w_84 (hR.sh hk2).1 rfl ?_
  refine sw_if_eq (pc' := 13) (tgt := 22) rfl dX3_end_10 (by decide +kernel) (fun c10 => ?_) (fun c10 => ?_)
  · refine sw_aload_n (pc' := 23) rfl dX3_end_22 rfl ?_
    refine sw_V (M' := MX3_refuse) (d' := d - 1) (bc' := 0) (bs' := 0) (ci := 4) (as := []) dX3_end_23 w_439 ok_X3_refuse (m_refuse hR) hR.1 rfl (by omega) (Nat.le_of_ble_eq_true rfl) (by omega) (by omega) (fun E h' n' _ z => cp_x z) (cp_k (fun p23 p23R p23F => ?_))
    refine sw_ret (v := some _) ⟨dX3_end_26, _, rfl, rfl⟩ ?_
    rw [opEnd, onSh_k hk2, if_pos (Or.inl (Nat.eq_zero_of_not_pos (fun g => nI_ne0 g (by have := (hR.sh hk2).2.2.1; omega) c10)))]
    exact ⟨rfl, rfl, p23R, p23F⟩
  · refine sw_aload_n (pc' := 14) rfl dX3_end_13 rfl ?_
    refine sw_bipush (pc' := 16) (v := 100) rfl dX3_end_14 (by decide +kernel) ?_
    refine sw_V (M' := MX1_holds) (d' := d - 1) (bc' := 0) (bs' := 0) (ci := 2) (as := [_]) dX3_end_16 w_530 ok_X1_holds (m_holds (hR.sh hk2) (by omega)) (hR.sh hk2).1 rfl (by omega) (Nat.le_of_ble_eq_true rfl) (by omega) (by omega) (fun E h' n' _ z => det_x z) (det_k ?_)
    refine sw_if_eq (pc' := 22) (tgt := 27) rfl dX3_end_19 (by decide +kernel) (fun c19 => ?_) (fun c19 => ?_)
    · refine sw_aload_n (pc' := 28) rfl dX3_end_27 rfl ?_
      refine sw_iconst (pc' := 29) (v := 0) rfl dX3_end_28 (by decide +kernel) ?_
      refine sw_V (M' := MX1_thingAt) (d' := d - 1) (bc' := 0) (bs' := 0) (ci := 2) (as := [_]) dX3_end_29 w_230 ok_X1_thingAt (m_thingAt (hR.sh hk2)) (hR.sh hk2).1 rfl (by omega) (Nat.le_of_ble_eq_true rfl) (by omega) (by omega) (fun E h' n' _ z => det_x z) (det_k ?_)
      refine sw_istore (pc' := 34) (lv' := [(4, _), (3, _), (0, _), (1, _), (2, _)]) rfl dX3_end_32 (by decide +kernel) rfl ?_
      refine sw_iconst (pc' := 35) (v := 1) rfl dX3_end_34 (by decide +kernel) ?_
      refine sw_istore (pc' := 37) (lv' := [(5, _), (4, _), (3, _), (0, _), (1, _), (2, _)]) rfl dX3_end_35 (by decide +kernel) rfl ?_
      have hc := (hR.sh hk2).2.2.1
      have hc0 : 0 < σ.2.1 k2 := Nat.pos_of_ne_zero (fun e => c10 (by rw [e]; rfl))
      rw [opEnd, onSh_k hk2, if_neg (fun q => q.elim (fun e => by omega) (fun e => Bool.noConfusion (e.symm.trans (bI_0 c19)))), show taI (σ.1 k2) (σ.2.1 k2) 0 = σ.1 k2 0 from taI_in hc0 hc]
      exact l_end hR hk2 (by omega) (σ.2.1 k2 - 1) 1 _ (by omega)
    · refine sw_aload_n (pc' := 23) rfl dX3_end_22 rfl ?_
      refine sw_V (M' := MX3_refuse) (d' := d - 1) (bc' := 0) (bs' := 0) (ci := 4) (as := []) dX3_end_23 w_439 ok_X3_refuse (m_refuse hR) hR.1 rfl (by omega) (Nat.le_of_ble_eq_true rfl) (by omega) (by omega) (fun E h' n' _ z => cp_x z) (cp_k (fun p23 p23R p23F => ?_))
      refine sw_ret (v := some _) ⟨dX3_end_26, _, rfl, rfl⟩ ?_
      rw [opEnd, onSh_k hk2, if_pos (Or.inr (bI_1 c19))]
      exact ⟨rfl, rfl, p23R, p23F⟩
theorem m_floorMod {h : AH} {d bc bs n : Nat} {x y : Int32} (hz : ¬ y = 0) : SM SR0 MJ9_floorMod_7cf53 d bc bs [.int x, .int y] h n (Det (rI (fmI x y)) h n) := by
  refine sm_ofF (pf_of rfl rfl) rfl (Nat.le_of_ble_eq_true rfl) ?_
  refine sw_iload_n (pc' := 1) rfl dJ9_floorMod_7cf53_0 rfl ?_
  refine sw_iload_n (pc' := 2) rfl dJ9_floorMod_7cf53_1 rfl ?_
  refine sw_irem (pc' := 3) rfl dJ9_floorMod_7cf53_2 hz ?_
  refine sw_istore_n (pc' := 4) (lv' := [(2, _), (0, _), (1, _)]) rfl dJ9_floorMod_7cf53_3 (by decide +kernel) rfl ?_
  refine sw_iload_n (pc' := 5) rfl dJ9_floorMod_7cf53_4 rfl ?_
  refine sw_iload_n (pc' := 6) rfl dJ9_floorMod_7cf53_5 rfl ?_
  refine sw_ixor (pc' := 7) rfl dJ9_floorMod_7cf53_6 ?_
  refine sw_if_ge (pc' := 10) (tgt := 18) rfl dJ9_floorMod_7cf53_7 (by decide +kernel) (fun c7 => ?_) (fun c7 => ?_)
  · refine sw_iload_n (pc' := 19) rfl dJ9_floorMod_7cf53_18 rfl ?_
    refine sw_ret (v := some _) ⟨dJ9_floorMod_7cf53_19, _, rfl, rfl⟩ ?_
    exact ⟨by rw [fmI, if_pos c7]; rfl, rfl, rfl⟩
  · refine sw_iload_n (pc' := 11) rfl dJ9_floorMod_7cf53_10 rfl ?_
    refine sw_if_eq (pc' := 14) (tgt := 18) rfl dJ9_floorMod_7cf53_11 (by decide +kernel) (fun c11 => ?_) (fun c11 => ?_)
    · refine sw_iload_n (pc' := 19) rfl dJ9_floorMod_7cf53_18 rfl ?_
      refine sw_ret (v := some _) ⟨dJ9_floorMod_7cf53_19, _, rfl, rfl⟩ ?_
      exact ⟨by rw [fmI, if_neg c7, if_pos c11]; rfl, rfl, rfl⟩
    · refine sw_iload_n (pc' := 15) rfl dJ9_floorMod_7cf53_14 rfl ?_
      refine sw_iload_n (pc' := 16) rfl dJ9_floorMod_7cf53_15 rfl ?_
      refine sw_iadd (pc' := 17) rfl dJ9_floorMod_7cf53_16 ?_
      refine sw_ret (v := some _) ⟨dJ9_floorMod_7cf53_17, _, rfl, rfl⟩ ?_
      exact ⟨by rw [fmI, if_neg c7, if_neg c11]; rfl, rfl, rfl⟩
theorem rng41 {x : Int32} (h : ¬ (x < -20 ∨ 20 < x)) : ∃ i : Nat, i < 41 ∧ x = nI i - 20 := by
  have h1 : (-20 : Int32) ≤ x := Int32.not_lt.mp (fun q => h (Or.inl q))
  have h2 : x ≤ 20 := Int32.not_lt.mp (fun q => h (Or.inr q))
  have g1 : (-20 : Int) ≤ x.toInt := Int32.le_iff_toInt_le.mp h1
  have g2 : x.toInt ≤ 20 := Int32.le_iff_toInt_le.mp h2
  refine ⟨(x.toInt + 20).toNat, by omega, ?_⟩
  apply Int32.toInt_inj.mp
  rw [Int32.toInt_sub, nI_toInt (by omega), show (20 : Int32).toInt = 20 from rfl, Int.toNat_of_nonneg (by omega), Int.bmod_def]
  split <;> omega
theorem fm_all : ∀ c, c < 12 → ∀ i, i < 41 → fmI (nI i - 20) (nI (c + 1)) = nI (fmI (nI i - 20) (nI (c + 1))).toNatClampNeg ∧ (fmI (nI i - 20) (nI (c + 1))).toNatClampNeg ≤ c + 1 := by decide +kernel
theorem fm_in {c : Nat} {x : Int32} (hc : c ≤ 12) (h0 : ¬ c = 0) (h : ¬ (x < -20 ∨ 20 < x)) : fmI x (nI c) = nI (fmI x (nI c)).toNatClampNeg ∧ (fmI x (nI c)).toNatClampNeg ≤ c := by
  obtain ⟨i, hi, rfl⟩ := rng41 h
  obtain ⟨c', rfl⟩ : ∃ c', c = c' + 1 := ⟨c - 1, by omega⟩
  exact fm_all c' (by omega) i hi
def mvO (f : Nat → Int32) (c y : Nat) : Nat → Int32 := rvN (rvN (rvN f 0 (0 + c)) 0 (0 + y)) y (y + (c - y))
def opRotate (σ : CS) (a x : Int32) : ARes × CS := onRw a σ (fun k => if x < -20 ∨ 20 < x then (xA, σ) else if σ.2.1 k = 0 then (rI (nI (σ.2.1 k)), sU σ k (σ.1 k) (σ.2.1 k) (σ.2.2.1 k) (σ.2.2.2.1 k + 1)) else (rI (nI (σ.2.1 k)), sU σ k (mvO (σ.1 k) (σ.2.1 k) (fmI x (nI (σ.2.1 k))).toNatClampNeg) (σ.2.1 k) (σ.2.2.1 k) (σ.2.2.2.1 k + 1)))
theorem m_rotate {h : AH} {σ : CS} {d bc bs n : Nat} {a x : Int32} (hR : RC h σ) (hd : 6 ≤ d) (hb1 : 20 ≤ bc) (hb2 : 200 ≤ bs) : SM SR0 MX3_rotate d bc bs [.ref 100, .int a, .int x] h n (CP h n (opRotate σ a x)) := by
  refine sm_of pn_Overwalks rfl (Nat.le_of_ble_eq_true rfl) ?_
  refine sw_aload_n (pc' := 1) rfl dX3_rotate_0 rfl ?_
  refine sw_iload_n (pc' := 2) rfl dX3_rotate_1 rfl ?_
  rcases idxN 11 (by decide +kernel) a with q2 | ⟨k2, hk2, q2⟩
  · refine sw_V (M' := MX3_rowAt) (d' := d - 1) (bc' := 2) (bs' := 12) (ci := 4) (as := [_]) dX3_rotate_2 w_541 ok_X3_rowAt (m_rowAt_x hR (Nat.le_refl _) (Nat.le_refl _) (by omega) q2) hR.1 rfl (by omega) (Nat.le_of_ble_eq_true rfl) (by omega) (by omega) (dx_x (swx_out rfl ?_)) (fun v h' n' _ z => dx_k z)
    rw [opRotate, onRw_x q2]
    exact ⟨rfl, rfl, hR, FrC.rf⟩
  subst q2
  rcases Classical.em (kP (kdO k2) = false) with q2 | q2
  · refine sw_V (M' := MX3_rowAt) (d' := d - 1) (bc' := 2) (bs' := 12) (ci := 4) (as := [_]) dX3_rotate_2 w_541 ok_X3_rowAt (m_rowAt_y hR (Nat.le_refl _) (Nat.le_refl _) (by omega) hk2 q2) hR.1 rfl (by omega) (Nat.le_of_ble_eq_true rfl) (by omega) (by omega) (dx_x (swx_out rfl ?_)) (fun v h' n' _ z => dx_k z)
    rw [opRotate, onRw_y hk2 q2]
    exact ⟨rfl, rfl, hR, FrC.rf⟩
  refine sw_V (M' := MX3_rowAt) (d' := d - 1) (bc' := 2) (bs' := 12) (ci := 4) (as := [_]) dX3_rotate_2 w_541 ok_X3_rowAt (m_rowAt_k hR (Nat.le_refl _) (Nat.le_refl _) (by omega) hk2 q2) hR.1 rfl (by omega) (Nat.le_of_ble_eq_true rfl) (by omega) (by omega) (fun E h' n' _ z => det_x z) (det_k ?_)
  refine sw_astore_n (pc' := 6) (lv' := [(3, _), (0, _), (1, _), (2, _)]) rfl dX3_rotate_5 (by decide +kernel) rfl ?_
  refine sw_iload_n (pc' := 7) rfl dX3_rotate_6 rfl ?_
  refine sw_bipush (pc' := 9) (v := (-20)) rfl dX3_rotate_7 (by decide +kernel) ?_
  refine sw_icmp_lt (pc' := 12) (tgt := 18) rfl dX3_rotate_9 (by decide +kernel) (fun c9 => ?_) (fun c9 => ?_)
  · refine sw_throw (names := ["java/lang/RuntimeException", "java/lang/Exception"]) rfl dX3_rotate_18 dX3_rotate_21 dX3_rotate_22 dX3_rotate_24 dX3_rotate_27 (by decide +kernel) (by decide +kernel) (by decide +kernel) w_285 w_50 (SRm 10 rfl) th_Overwalks_154 (by omega) (by omega) ?_
    rw [opRotate, onRw_k hk2 q2, if_pos (Or.inl c9)]
    exact ⟨rfl, rfl, hR, FrC.rf⟩
  · refine sw_iload_n (pc' := 13) rfl dX3_rotate_12 rfl ?_
    refine sw_bipush (pc' := 15) (v := 20) rfl dX3_rotate_13 (by decide +kernel) ?_
    refine sw_icmp_le (pc' := 18) (tgt := 28) rfl dX3_rotate_15 (by decide +kernel) (fun c15 => ?_) (fun c15 => ?_)
    · refine sw_aload_n (pc' := 29) rfl dX3_rotate_28 rfl ?_
      refine sw_dup (pc' := 30) rfl dX3_rotate_29 rfl ?_
      refine sw_getf (ci := 2) (k := 4) (pc' := 33) rfl dX3_rotate_30 (by decide +kernel) w_89 (hR.sh hk2).1 rfl ?_
      refine sw_iconst (pc' := 34) (v := 1) rfl dX3_rotate_33 (by decide +kernel) ?_
      refine sw_iadd (pc' := 35) rfl dX3_rotate_34 ?_
      refine sw_putf (ci := 2) (k := 4) (pc' := 38) rfl dX3_rotate_35 (by decide +kernel) (by decide +kernel) w_89 rfl (hR.sh hk2).1 (hR.sh hk2).2.2.2 (Nat.le_of_ble_eq_true rfl) rfl rfl ?_
      refine sw_nm (fun g1 eg1 => ?_)
      have zk2 := (congrFun eg1 _).trans (up_s (h := h) (i := (102 + 2 * k2)))
      have zk3 := ((congrFun eg1 100).trans (up_n (h := h) (by omega))).trans hR.1
      have zk4 := ((congrFun eg1 ((102 + 2 * k2) + 1)).trans (up_n (h := h) (by omega))).trans (hR.sh hk2).2.1
      refine sw_aload_n (pc' := 39) rfl dX3_rotate_38 rfl ?_
      refine sw_getf (ci := 2) (k := 2) (pc' := 42) rfl dX3_rotate_39 (by decide +kernel) w_84 zk2 rfl ?_
      refine sw_if_le (pc' := 45) (tgt := 57) rfl dX3_rotate_42 (by decide +kernel) (fun c42 => ?_) (fun c42 => ?_)
      · refine sw_aload_n (pc' := 58) rfl dX3_rotate_57 rfl ?_
        refine sw_getf (ci := 2) (k := 2) (pc' := 61) rfl dX3_rotate_58 (by decide +kernel) w_84 zk2 rfl ?_
        refine sw_ret (v := some _) ⟨dX3_rotate_61, _, rfl, rfl⟩ ?_
        have hc0 : σ.2.1 k2 = 0 := by
          apply Nat.eq_zero_of_not_pos
          exact fun g => nI_nle g (by have := (hR.sh hk2).2.2.1; omega) c42
        rw [opRotate, onRw_k hk2 q2, if_neg (fun q => q.elim c9 (Int32.not_lt.mpr c15)), if_pos hc0]
        exact ⟨rfl, rfl, hR.sU hk2 (show ShF g1 (102 + 2 * k2) (kdO k2) (σ.1 k2) (σ.2.1 k2) (σ.2.2.1 k2) (σ.2.2.2.1 k2 + 1) from ⟨zk2, zk4, (hR.sh hk2).2.2⟩) (show FrS h g1 (102 + 2 * k2) from (fun i h1 h2 => (congrFun eg1 i).trans ((up_n h1).trans (rfl)))), ((show FrS h g1 (102 + 2 * k2) from (fun i h1 h2 => (congrFun eg1 i).trans ((up_n h1).trans (rfl))))).c hk2⟩
      · have hc := (hR.sh hk2).2.2.1
        have hc0 : ¬ σ.2.1 k2 = 0 := fun e => c42 (by rw [e]; decide)
        have hfm := fm_in (x := x) hc hc0 (fun q => q.elim c9 (Int32.not_lt.mpr c15))
        refine sw_aload_n (pc' := 46) rfl dX3_rotate_45 rfl ?_
        refine sw_iload_n (pc' := 47) rfl dX3_rotate_46 rfl ?_
        refine sw_aload_n (pc' := 48) rfl dX3_rotate_47 rfl ?_
        refine sw_getf (ci := 2) (k := 2) (pc' := 51) rfl dX3_rotate_48 (by decide +kernel) w_84 zk2 rfl ?_
        refine sw_S (M' := MJ9_floorMod_7cf53) (d' := d - 1) (bc' := 0) (bs' := 0) (as := [_, _]) dX3_rotate_51 w_584 ok_J9_floorMod_7cf53 (m_floorMod (fun e => c42 (by rw [e]; decide))) (by omega) (Nat.le_of_ble_eq_true rfl) (Nat.zero_le _) (Nat.zero_le _) (fun E h' n' _ z => det_x z) (det_k ?_)
        rw [hfm.1]
        refine sw_V (M' := MX1_moveOn) (d' := d - 1) (bc' := 0) (bs' := 0) (ci := 2) (as := [_]) dX3_rotate_54 w_587 ok_X1_moveOn (m_moveOn (show ShF g1 (102 + 2 * k2) (kdO k2) (σ.1 k2) (σ.2.1 k2) (σ.2.2.1 k2) (σ.2.2.2.1 k2 + 1) from ⟨zk2, zk4, (hR.sh hk2).2.2⟩) (by omega) hfm.2) (show ShF g1 (102 + 2 * k2) (kdO k2) (σ.1 k2) (σ.2.1 k2) (σ.2.2.1 k2) (σ.2.2.2.1 k2 + 1) from ⟨zk2, zk4, (hR.sh hk2).2.2⟩).1 rfl (by omega) (Nat.le_of_ble_eq_true rfl) (by omega) (by omega) (fun E h' n' _ z => shp_x z) (shp_k (fun p54 p54S p54F => ?_))
        refine sw_aload_n (pc' := 58) rfl dX3_rotate_57 rfl ?_
        refine sw_getf (ci := 2) (k := 2) (pc' := 61) rfl dX3_rotate_58 (by decide +kernel) w_84 p54S.1 rfl ?_
        refine sw_ret (v := some _) ⟨dX3_rotate_61, _, rfl, rfl⟩ ?_
        rw [opRotate, onRw_k hk2 q2, if_neg (fun q => q.elim c9 (Int32.not_lt.mpr c15)), if_neg hc0]
        exact ⟨rfl, rfl, hR.sU hk2 p54S ((show FrS h g1 (102 + 2 * k2) from (fun i h1 h2 => (congrFun eg1 i).trans ((up_n h1).trans (rfl)))).tr p54F), (((show FrS h g1 (102 + 2 * k2) from (fun i h1 h2 => (congrFun eg1 i).trans ((up_n h1).trans (rfl)))).tr p54F)).c hk2⟩
    · refine sw_throw (names := ["java/lang/RuntimeException", "java/lang/Exception"]) rfl dX3_rotate_18 dX3_rotate_21 dX3_rotate_22 dX3_rotate_24 dX3_rotate_27 (by decide +kernel) (by decide +kernel) (by decide +kernel) w_285 w_50 (SRm 10 rfl) th_Overwalks_154 (by omega) (by omega) ?_
      rw [opRotate, onRw_k hk2 q2, if_pos (Or.inr (Int32.not_le.mp c15))]
      exact ⟨rfl, rfl, hR, FrC.rf⟩
