/-! calls with loops -/
def cdN (f : Nat → Int32) : Nat → Nat → Int32 → Int32
  | _, 0, a => a
  | j, m + 1, a => cdN f (j + 1) m (a * 31 + if f j = 100 then 0 else f j)
def opCode (σ : CS) (a : Int32) : ARes × CS := onSh a σ (fun k => (rI (cdN (σ.1 k) 0 (σ.2.1 k) 1), σ))
/-- are the m things from place j on the same -/
def alB (f g : Nat → Int32) : Nat → Nat → Bool
  | _, 0 => true
  | j, m + 1 => decide (f j = g j) && alB f g (j + 1) m
def hsB (f g : Nat → Int32) (c e : Nat) : Bool := decide (c = e) && alB f g 0 c
def opAreAlike (σ : CS) (a b : Int32) : ARes × CS := onSh a σ (fun k => onSh b σ (fun j => (rI (bI (hsB (σ.1 k) (σ.1 j) (σ.2.1 k) (σ.2.1 j))), σ)))
/-- PUT m times -/
def ldM (k : Nat) (x : Int32) : Nat → CS → CS
  | 0, σ => σ
  | m + 1, σ => ldM k x m (ldU σ k x)
theorem ldU_c {σ : CS} {k : Nat} {x : Int32} : (ldU σ k x).2.1 k ≤ σ.2.1 k + 1 := by
  unfold ldU
  split
  · show up σ.2.1 k (σ.2.1 k + 1) k ≤ _
    rw [up_s]
    exact Nat.le_refl _
  · exact Nat.le_succ _
def opCopies (σ : CS) (a x m : Int32) : ARes × CS := onRw a σ (fun k => if x < 0 ∨ 100 < x then (xA, σ) else if m < 0 ∨ 12 < m then (xA, σ) else if 12 < nI (σ.2.1 k) + m then (xS, σ) else (rI (nI ((ldM k x m.toNatClampNeg σ).2.1 k)), ldM k x m.toNatClampNeg σ))
def fiN (f : Nat → Int32) (x : Int32) (j : Nat) : Nat → Int32 := fun q => if q < j then x else f q
theorem fiN_0 {f : Nat → Int32} {x : Int32} : fiN f x 0 = f := by
  funext q
  exact if_neg (by omega)
theorem fiN_s {f : Nat → Int32} {x : Int32} {j : Nat} : up (fiN f x j) j x = fiN f x (j + 1) := by
  funext q
  by_cases e : q = j
  · subst e
    rw [up_s]
    exact (if_pos (by omega)).symm
  · rw [up_n e]
    unfold fiN
    by_cases g : q < j
    · rw [if_pos g, if_pos (by omega)]
    · rw [if_neg g, if_neg (by omega)]
def opFill (σ : CS) (a x : Int32) : ARes × CS := onRw a σ (fun k => if x < 0 ∨ 100 < x then (xA, σ) else (rI (nI (σ.2.1 k)), sU σ k (fiN (σ.1 k) x (σ.2.1 k)) (σ.2.1 k) (σ.2.2.1 k) (σ.2.2.2.1 k + 1)))
theorem nI_room {c m : Nat} (hc : c ≤ 12) (hm : m ≤ 12) (q : ¬ 12 < nI c + nI m) : c + m ≤ 12 := by
  rw [nI_add] at q
  exact (nI_leI (b := 12) (by omega) (by decide +kernel)).mp (Int32.not_lt.mp q)
theorem l_haveTheSame {h : AH} {b b2 kd kd2 c c2 d bc bs n : Nat} {f g : Nat → Int32} {s t s2 t2 : Int32} (hS : ShF h b kd f c s t) (gS : ShF h b2 kd2 g c2 s2 t2) (hd : 1 ≤ d) (he : c = c2) (m : Nat) : ∀ j, j + m = c → SW SR0 MX3_haveTheSame d bc bs 15 [(2, .int (nI j)), (0, .ref b), (1, .ref b2)] [] h n (Det (rI (bI (alB f g j m))) h n) := by
  have hc := hS.2.2.1
  induction m with
  | zero =>
    intro j hj
    have hjc : j = c := by omega
    subst hjc
    refine sw_iload_n (pc' := 16) rfl dX3_haveTheSame_15 rfl ?_
    refine sw_aload_n (pc' := 17) rfl dX3_haveTheSame_16 rfl ?_
    refine sw_getf (ci := 2) (k := 2) (pc' := 20) rfl dX3_haveTheSame_17 (by decide +kernel) w_84 hS.1 rfl ?_
    refine sw_icmp_ge (pc' := 23) (tgt := 44) rfl dX3_haveTheSame_20 (by decide +kernel) (fun c20 => ?_) (fun c20 => ?_)
    · refine sw_iconst (pc' := 45) (v := 1) rfl dX3_haveTheSame_44 (by decide +kernel) ?_
      refine sw_ret (v := some _) ⟨dX3_haveTheSame_45, _, rfl, rfl⟩ ?_
      exact ⟨rfl, rfl, rfl⟩
    · exact absurd (Int32.le_refl _) c20
  | succ m ih =>
    intro j hj
    have e1 := taI_in (f := f) (c := c) (j := j) (by omega) hc
    have e2 := taI_in (f := g) (c := c2) (j := j) (by omega) gS.2.2.1
    refine sw_iload_n (pc' := 16) rfl dX3_haveTheSame_15 rfl ?_
    refine sw_aload_n (pc' := 17) rfl dX3_haveTheSame_16 rfl ?_
    refine sw_getf (ci := 2) (k := 2) (pc' := 20) rfl dX3_haveTheSame_17 (by decide +kernel) w_84 hS.1 rfl ?_
    refine sw_icmp_ge (pc' := 23) (tgt := 44) rfl dX3_haveTheSame_20 (by decide +kernel) (fun c20 => ?_) (fun c20 => ?_)
    · exact absurd c20 (nI_ge (by omega) (by omega))
    · refine sw_aload_n (pc' := 24) rfl dX3_haveTheSame_23 rfl ?_
      refine sw_iload_n (pc' := 25) rfl dX3_haveTheSame_24 rfl ?_
      refine sw_V (M' := MX1_thingAt) (d' := d - 1) (bc' := 0) (bs' := 0) (ci := 2) (as := [_]) dX3_haveTheSame_25 w_230 ok_X1_thingAt (m_thingAt hS) hS.1 rfl (by omega) (Nat.le_of_ble_eq_true rfl) (Nat.zero_le _) (Nat.zero_le _) (fun E h' n' _ z => det_x z) (det_k ?_)
      refine sw_aload_n (pc' := 29) rfl dX3_haveTheSame_28 rfl ?_
      refine sw_iload_n (pc' := 30) rfl dX3_haveTheSame_29 rfl ?_
      refine sw_V (M' := MX1_thingAt) (d' := d - 1) (bc' := 0) (bs' := 0) (ci := 2) (as := [_]) dX3_haveTheSame_30 w_230 ok_X1_thingAt (m_thingAt gS) gS.1 rfl (by omega) (Nat.le_of_ble_eq_true rfl) (Nat.zero_le _) (Nat.zero_le _) (fun E h' n' _ z => det_x z) (det_k ?_)
      refine sw_icmp_eq (pc' := 36) (tgt := 38) rfl dX3_haveTheSame_33 (by decide +kernel) (fun c33 => ?_) (fun c33 => ?_)
      · refine sw_iinc (pc' := 41) (lv' := [(2, _), (0, _), (1, _)]) (v := nI (j + 1)) rfl dX3_haveTheSame_38 rfl (nI_succ j).symm (by decide +kernel) rfl ?_
        refine sw_goto (tgt := 15) dX3_haveTheSame_41 (by decide +kernel) ?_
        rw [e1, e2] at c33
        rw [alB, decide_eq_true c33, Bool.true_and]
        exact ih (j + 1) (by omega)
      · refine sw_iconst (pc' := 37) (v := 0) rfl dX3_haveTheSame_36 (by decide +kernel) ?_
        refine sw_ret (v := some _) ⟨dX3_haveTheSame_37, _, rfl, rfl⟩ ?_
        rw [e1, e2] at c33
        exact ⟨by rw [alB, decide_eq_false c33]; rfl, rfl, rfl⟩
theorem m_haveTheSame {h : AH} {b b2 kd kd2 c c2 d bc bs n : Nat} {f g : Nat → Int32} {s t s2 t2 : Int32} (hS : ShF h b kd f c s t) (gS : ShF h b2 kd2 g c2 s2 t2) (hd : 1 ≤ d) : SM SR0 MX3_haveTheSame d bc bs [.ref b, .ref b2] h n (Det (rI (bI (hsB f g c c2))) h n) := by
  have hc := hS.2.2.1
  have hc2 := gS.2.2.1
  refine sm_of pn_Overwalks rfl (Nat.le_of_ble_eq_true rfl) ?_
  refine sw_aload_n (pc' := 1) rfl dX3_haveTheSame_0 rfl ?_
  refine sw_getf (ci := 2) (k := 2) (pc' := 4) rfl dX3_haveTheSame_1 (by decide +kernel) w_84 hS.1 rfl ?_
  refine sw_aload_n (pc' := 5) rfl dX3_haveTheSame_4 rfl ?_
  refine sw_getf (ci := 2) (k := 2) (pc' := 8) rfl dX3_haveTheSame_5 (by decide +kernel) w_84 gS.1 rfl ?_
  refine sw_icmp_eq (pc' := 11) (tgt := 13) rfl dX3_haveTheSame_8 (by decide +kernel) (fun c8 => ?_) (fun c8 => ?_)
  · refine sw_iconst (pc' := 14) (v := 0) rfl dX3_haveTheSame_13 (by decide +kernel) ?_
    refine sw_istore_n (pc' := 15) (lv' := [(2, _), (0, _), (1, _)]) rfl dX3_haveTheSame_14 (by decide +kernel) rfl ?_
    have he : c = c2 := (nI_eq (by omega) (by omega)).mp c8
    rw [hsB, decide_eq_true he, Bool.true_and]
    exact l_haveTheSame hS gS hd he c 0 (by omega)
  · refine sw_iconst (pc' := 12) (v := 0) rfl dX3_haveTheSame_11 (by decide +kernel) ?_
    refine sw_ret (v := some _) ⟨dX3_haveTheSame_12, _, rfl, rfl⟩ ?_
    exact ⟨by rw [hsB, decide_eq_false (fun e => c8 (congrArg nI e))]; rfl, rfl, rfl⟩
theorem m_areAlike {h : AH} {σ : CS} {d bc bs n : Nat} {a b : Int32} (hR : RC h σ) (hd : 6 ≤ d) (hb1 : 20 ≤ bc) (hb2 : 200 ≤ bs) : SM SR0 MX3_areAlike d bc bs [.ref 100, .int a, .int b] h n (CP h n (opAreAlike σ a b)) := by
  refine sm_of pn_Overwalks rfl (Nat.le_of_ble_eq_true rfl) ?_
  refine sw_aload_n (pc' := 1) rfl dX3_areAlike_0 rfl ?_
  refine sw_iload_n (pc' := 2) rfl dX3_areAlike_1 rfl ?_
  rcases idxN 11 (by decide +kernel) a with q2 | ⟨k2, hk2, q2⟩
  · refine sw_V (M' := MX3_shelfAt) (d' := d - 1) (bc' := 1) (bs' := 6) (ci := 4) (as := [_]) dX3_areAlike_2 w_402 ok_X3_shelfAt (m_shelfAt_x hR (Nat.le_refl _) (Nat.le_refl _) q2) hR.1 rfl (by omega) (Nat.le_of_ble_eq_true rfl) (by omega) (by omega) (dx_x (swx_out rfl ?_)) (fun v h' n' _ z => dx_k z)
    rw [opAreAlike, onSh_x q2]
    exact ⟨rfl, rfl, hR, FrC.rf⟩
  subst q2
  refine sw_V (M' := MX3_shelfAt) (d' := d - 1) (bc' := 1) (bs' := 6) (ci := 4) (as := [_]) dX3_areAlike_2 w_402 ok_X3_shelfAt (m_shelfAt_k hR (Nat.le_refl _) (Nat.le_refl _) hk2) hR.1 rfl (by omega) (Nat.le_of_ble_eq_true rfl) (by omega) (by omega) (fun E h' n' _ z => det_x z) (det_k ?_)
  refine sw_astore_n (pc' := 6) (lv' := [(3, _), (0, _), (1, _), (2, _)]) rfl dX3_areAlike_5 (by decide +kernel) rfl ?_
  refine sw_aload_n (pc' := 7) rfl dX3_areAlike_6 rfl ?_
  refine sw_iload_n (pc' := 8) rfl dX3_areAlike_7 rfl ?_
  rcases idxN 11 (by decide +kernel) b with q8 | ⟨k8, hk8, q8⟩
  · refine sw_V (M' := MX3_shelfAt) (d' := d - 1) (bc' := 1) (bs' := 6) (ci := 4) (as := [_]) dX3_areAlike_8 w_402 ok_X3_shelfAt (m_shelfAt_x hR (Nat.le_refl _) (Nat.le_refl _) q8) hR.1 rfl (by omega) (Nat.le_of_ble_eq_true rfl) (by omega) (by omega) (dx_x (swx_out rfl ?_)) (fun v h' n' _ z => dx_k z)
    rw [opAreAlike, onSh_k hk2, onSh_x q8]
    exact ⟨rfl, rfl, hR, FrC.rf⟩
  subst q8
  refine sw_V (M' := MX3_shelfAt) (d' := d - 1) (bc' := 1) (bs' := 6) (ci := 4) (as := [_]) dX3_areAlike_8 w_402 ok_X3_shelfAt (m_shelfAt_k hR (Nat.le_refl _) (Nat.le_refl _) hk8) hR.1 rfl (by omega) (Nat.le_of_ble_eq_true rfl) (by omega) (by omega) (fun E h' n' _ z => det_x z) (det_k ?_)
  refine sw_astore (pc' := 13) (lv' := [(4, _), (3, _), (0, _), (1, _), (2, _)]) rfl dX3_areAlike_11 (by decide +kernel) rfl ?_
  refine sw_aload_n (pc' := 14) rfl dX3_areAlike_13 rfl ?_
  refine sw_aload (pc' := 16) rfl dX3_areAlike_14 rfl ?_
  refine sw_S (M' := MX3_haveTheSame) (d' := d - 1) (bc' := 0) (bs' := 0) (as := [_, _]) dX3_areAlike_16 w_227 ok_X3_haveTheSame (m_haveTheSame (hR.sh hk2) (hR.sh hk8) (by omega)) (by omega) (Nat.le_of_ble_eq_true rfl) (Nat.zero_le _) (Nat.zero_le _) (fun E h' n' _ z => det_x z) (det_k ?_)
  refine sw_ret (v := some _) ⟨dX3_areAlike_19, _, rfl, bI_i⟩ ?_
  rw [opAreAlike, onSh_k hk2, onSh_k hk8]
  exact ⟨rfl, rfl, hR, FrC.rf⟩
theorem l_code {h : AH} {σ : CS} {d bc bs n k : Nat} {a : Int32} (hR : RC h σ) (hk : k < 11) (hd : 1 ≤ d) (m : Nat) : ∀ (j : Nat) (v : Int32), j + m = σ.2.1 k → SW SR0 MX3_code d bc bs 11 [(4, .int (nI j)), (3, .int v), (2, .ref (102 + 2 * k)), (0, .ref 100), (1, .int a)] [] h n (CP h n (rI (cdN (σ.1 k) j m v), σ)) := by
  have hc := (hR.sh hk).2.2.1
  induction m with
  | zero =>
    intro j v hj
    have hjc : σ.2.1 k = j := by omega
    refine sw_iload (pc' := 13) rfl dX3_code_11 rfl ?_
    refine sw_aload_n (pc' := 14) rfl dX3_code_13 rfl ?_
    refine sw_getf (ci := 2) (k := 2) (pc' := 17) rfl dX3_code_14 (by decide +kernel) w_84 (hR.sh hk).1 rfl ?_
    refine sw_icmp_ge (pc' := 20) (tgt := 53) rfl dX3_code_17 (by decide +kernel) (fun c17 => ?_) (fun c17 => ?_)
    · refine sw_iload_n (pc' := 54) rfl dX3_code_53 rfl ?_
      refine sw_ret (v := some _) ⟨dX3_code_54, _, rfl, rfl⟩ ?_
      exact ⟨rfl, rfl, hR, FrC.rf⟩
    · exact absurd (by rw [hjc]; exact Int32.le_refl _) c17
  | succ m ih =>
    intro j v hj
    have e1 := taI_in (f := σ.1 k) (c := σ.2.1 k) (j := j) (by omega) hc
    refine sw_iload (pc' := 13) rfl dX3_code_11 rfl ?_
    refine sw_aload_n (pc' := 14) rfl dX3_code_13 rfl ?_
    refine sw_getf (ci := 2) (k := 2) (pc' := 17) rfl dX3_code_14 (by decide +kernel) w_84 (hR.sh hk).1 rfl ?_
    refine sw_icmp_ge (pc' := 20) (tgt := 53) rfl dX3_code_17 (by decide +kernel) (fun c17 => ?_) (fun c17 => ?_)
    · exact absurd c17 (nI_ge (by omega) (by omega))
    · refine sw_aload_n (pc' := 21) rfl dX3_code_20 rfl ?_
      refine sw_iload (pc' := 23) rfl dX3_code_21 rfl ?_
      refine sw_V (M' := MX1_thingAt) (d' := d - 1) (bc' := 0) (bs' := 0) (ci := 2) (as := [_]) dX3_code_23 w_230 ok_X1_thingAt (m_thingAt (hR.sh hk)) (hR.sh hk).1 rfl (by omega) (Nat.le_of_ble_eq_true rfl) (Nat.zero_le _) (Nat.zero_le _) (fun E h' n' _ z => det_x z) (det_k ?_)
      refine sw_istore (pc' := 28) (lv' := [(5, _), (4, _), (3, _), (2, _), (0, _), (1, _)]) rfl dX3_code_26 (by decide +kernel) rfl ?_
      refine sw_iload_n (pc' := 29) rfl dX3_code_28 rfl ?_
      refine sw_bipush (pc' := 31) (v := 31) rfl dX3_code_29 (by decide +kernel) ?_
      refine sw_imul (pc' := 32) rfl dX3_code_31 ?_
      refine sw_iload (pc' := 34) rfl dX3_code_32 rfl ?_
      refine sw_bipush (pc' := 36) (v := 100) rfl dX3_code_34 (by decide +kernel) ?_
      refine sw_icmp_ne (pc' := 39) (tgt := 43) rfl dX3_code_36 (by decide +kernel) (fun c36 => ?_) (fun c36 => ?_)
      · refine sw_iload (pc' := 45) rfl dX3_code_43 rfl ?_
        refine sw_iadd (pc' := 46) rfl dX3_code_45 ?_
        refine sw_istore_n (pc' := 47) (lv' := [(3, _), (5, _), (4, _), (2, _), (0, _), (1, _)]) rfl dX3_code_46 (by decide +kernel) rfl ?_
        refine sw_iinc (pc' := 50) (lv' := [(4, _), (3, _), (5, _), (2, _), (0, _), (1, _)]) (v := nI (j + 1)) rfl dX3_code_47 rfl (nI_succ j).symm (by decide +kernel) rfl ?_
        refine sw_goto (tgt := 11) dX3_code_50 (by decide +kernel) ?_
        rw [e1] at c36
        rw [cdN, if_neg c36]
        rw [e1]
        refine sw_loc (lv' := [(4, .int (nI (j + 1))), (3, .int (v * 31 + σ.1 k j)), (2, .ref (102 + 2 * k)), (0, .ref 100), (1, .int a)]) ?_ (by intro q hq; simp only [List.mem_cons, List.not_mem_nil, or_false] at hq; rcases hq with rfl | rfl | rfl | rfl | rfl <;> simp)
        exact ih (j + 1) _ (by omega)
      · refine sw_iconst (pc' := 40) (v := 0) rfl dX3_code_39 (by decide +kernel) ?_
        refine sw_goto (tgt := 45) dX3_code_40 (by decide +kernel) ?_
        refine sw_iadd (pc' := 46) rfl dX3_code_45 ?_
        refine sw_istore_n (pc' := 47) (lv' := [(3, _), (5, _), (4, _), (2, _), (0, _), (1, _)]) rfl dX3_code_46 (by decide +kernel) rfl ?_
        refine sw_iinc (pc' := 50) (lv' := [(4, _), (3, _), (5, _), (2, _), (0, _), (1, _)]) (v := nI (j + 1)) rfl dX3_code_47 rfl (nI_succ j).symm (by decide +kernel) rfl ?_
        refine sw_goto (tgt := 11) dX3_code_50 (by decide +kernel) ?_
        rw [e1] at c36
        rw [cdN, if_pos c36]
        refine sw_loc (lv' := [(4, .int (nI (j + 1))), (3, .int (v * 31 + 0)), (2, .ref (102 + 2 * k)), (0, .ref 100), (1, .int a)]) ?_ (by intro q hq; simp only [List.mem_cons, List.not_mem_nil, or_false] at hq; rcases hq with rfl | rfl | rfl | rfl | rfl <;> simp)
        exact ih (j + 1) _ (by omega)
theorem m_code {h : AH} {σ : CS} {d bc bs n : Nat} {a : Int32} (hR : RC h σ) (hd : 6 ≤ d) (hb1 : 20 ≤ bc) (hb2 : 200 ≤ bs) : SM SR0 MX3_code d bc bs [.ref 100, .int a] h n (CP h n (opCode σ a)) := by
  refine sm_of pn_Overwalks rfl (Nat.le_of_ble_eq_true rfl) ?_
  refine sw_aload_n (pc' := 1) rfl dX3_code_0 rfl ?_
  refine sw_iload_n (pc' := 2) rfl dX3_code_1 rfl ?_
  rcases idxN 11 (by decide +kernel) a with q2 | ⟨k2, hk2, q2⟩
  · refine sw_V (M' := MX3_shelfAt) (d' := d - 1) (bc' := 1) (bs' := 6) (ci := 4) (as := [_]) dX3_code_2 w_402 ok_X3_shelfAt (m_shelfAt_x hR (Nat.le_refl _) (Nat.le_refl _) q2) hR.1 rfl (by omega) (Nat.le_of_ble_eq_true rfl) (by omega) (by omega) (dx_x (swx_out rfl ?_)) (fun v h' n' _ z => dx_k z)
    rw [opCode, onSh_x q2]
    exact ⟨rfl, rfl, hR, FrC.rf⟩
  subst q2
  refine sw_V (M' := MX3_shelfAt) (d' := d - 1) (bc' := 1) (bs' := 6) (ci := 4) (as := [_]) dX3_code_2 w_402 ok_X3_shelfAt (m_shelfAt_k hR (Nat.le_refl _) (Nat.le_refl _) hk2) hR.1 rfl (by omega) (Nat.le_of_ble_eq_true rfl) (by omega) (by omega) (fun E h' n' _ z => det_x z) (det_k ?_)
  refine sw_astore_n (pc' := 6) (lv' := [(2, _), (0, _), (1, _)]) rfl dX3_code_5 (by decide +kernel) rfl ?_
  refine sw_iconst (pc' := 7) (v := 1) rfl dX3_code_6 (by decide +kernel) ?_
  refine sw_istore_n (pc' := 8) (lv' := [(3, _), (2, _), (0, _), (1, _)]) rfl dX3_code_7 (by decide +kernel) rfl ?_
  refine sw_iconst (pc' := 9) (v := 0) rfl dX3_code_8 (by decide +kernel) ?_
  refine sw_istore (pc' := 11) (lv' := [(4, _), (3, _), (2, _), (0, _), (1, _)]) rfl dX3_code_9 (by decide +kernel) rfl ?_
  rw [opCode, onSh_k hk2]
  exact l_code hR hk2 (by omega) _ 0 1 (by omega)
theorem l_fill {b kd c d bc bs n : Nat} {f : Nat → Int32} {s t a x : Int32} {h0 : AH} {Post : ARes → AH → Nat → Prop} (hd : 1 ≤ d) (hP : ∀ h, ShF h b kd (fiN f x c) c s t → FrS h0 h b → Post (rI (nI c)) h n) (m : Nat) : ∀ (j : Nat) (h : AH), j + m = c → ShF h b kd (fiN f x j) c s t → FrS h0 h b → SW SR0 MX3_fill d bc bs 23 [(4, .int (nI j)), (3, .ref b), (0, .ref 100), (1, .int a), (2, .int x)] [] h n Post := by
  induction m with
  | zero =>
    intro j h hj hS hF
    have hjc : j = c := by omega
    have hc := hS.2.2.1
    subst hjc
    refine sw_iload (pc' := 25) rfl dX3_fill_23 rfl ?_
    refine sw_aload_n (pc' := 26) rfl dX3_fill_25 rfl ?_
    refine sw_getf (ci := 2) (k := 2) (pc' := 29) rfl dX3_fill_26 (by decide +kernel) w_84 hS.1 rfl ?_
    refine sw_icmp_ge (pc' := 32) (tgt := 46) rfl dX3_fill_29 (by decide +kernel) (fun c29 => ?_) (fun c29 => ?_)
    · refine sw_aload_n (pc' := 47) rfl dX3_fill_46 rfl ?_
      refine sw_getf (ci := 2) (k := 2) (pc' := 50) rfl dX3_fill_47 (by decide +kernel) w_84 hS.1 rfl ?_
      refine sw_ret (v := some _) ⟨dX3_fill_50, _, rfl, rfl⟩ ?_
      exact hP h hS hF
    · exact absurd (Int32.le_refl _) c29
  | succ m ih =>
    intro j h hj hS hF
    have hc := hS.2.2.1
    refine sw_iload (pc' := 25) rfl dX3_fill_23 rfl ?_
    refine sw_aload_n (pc' := 26) rfl dX3_fill_25 rfl ?_
    refine sw_getf (ci := 2) (k := 2) (pc' := 29) rfl dX3_fill_26 (by decide +kernel) w_84 hS.1 rfl ?_
    refine sw_icmp_ge (pc' := 32) (tgt := 46) rfl dX3_fill_29 (by decide +kernel) (fun c29 => ?_) (fun c29 => ?_)
    · exact absurd c29 (nI_ge (by omega) (by omega))
    · refine sw_aload_n (pc' := 33) rfl dX3_fill_32 rfl ?_
      refine sw_iload (pc' := 35) rfl dX3_fill_33 rfl ?_
      refine sw_iload_n (pc' := 36) rfl dX3_fill_35 rfl ?_
      refine sw_V (M' := MX1_exchange) (d' := d - 1) (bc' := 0) (bs' := 0) (ci := 2) (as := [_, _]) dX3_fill_36 w_512 ok_X1_exchange (m_exchange (j := j) hS (by omega)) hS.1 rfl (by omega) (Nat.le_of_ble_eq_true rfl) (Nat.zero_le _) (Nat.zero_le _) (fun E h' n' _ z => shp_x z) (shp_k (fun p pS pF => ?_))
      refine sw_pop (pc' := 40) rfl dX3_fill_39 rfl ?_
      refine sw_iinc (pc' := 43) (lv' := [(4, _), (3, _), (0, _), (1, _), (2, _)]) (v := nI (j + 1)) rfl dX3_fill_40 rfl (nI_succ j).symm (by decide +kernel) rfl ?_
      refine sw_goto (tgt := 23) dX3_fill_43 (by decide +kernel) ?_
      exact ih (j + 1) p (by omega) (fiN_s ▸ pS) (hF.tr pF)
theorem m_fill {h : AH} {σ : CS} {d bc bs n : Nat} {a x : Int32} (hR : RC h σ) (hd : 6 ≤ d) (hb1 : 20 ≤ bc) (hb2 : 200 ≤ bs) : SM SR0 MX3_fill d bc bs [.ref 100, .int a, .int x] h n (CP h n (opFill σ a x)) := by
  refine sm_of pn_Overwalks rfl (Nat.le_of_ble_eq_true rfl) ?_
  refine sw_aload_n (pc' := 1) rfl dX3_fill_0 rfl ?_
  refine sw_iload_n (pc' := 2) rfl dX3_fill_1 rfl ?_
  rcases idxN 11 (by decide +kernel) a with q2 | ⟨k2, hk2, q2⟩
  · refine sw_V (M' := MX3_rowAt) (d' := d - 1) (bc' := 2) (bs' := 12) (ci := 4) (as := [_]) dX3_fill_2 w_541 ok_X3_rowAt (m_rowAt_x hR (Nat.le_refl _) (Nat.le_refl _) (by omega) q2) hR.1 rfl (by omega) (Nat.le_of_ble_eq_true rfl) (by omega) (by omega) (dx_x (swx_out rfl ?_)) (fun v h' n' _ z => dx_k z)
    rw [opFill, onRw_x q2]
    exact ⟨rfl, rfl, hR, FrC.rf⟩
  subst q2
  rcases Classical.em (kP (kdO k2) = false) with q2 | q2
  · refine sw_V (M' := MX3_rowAt) (d' := d - 1) (bc' := 2) (bs' := 12) (ci := 4) (as := [_]) dX3_fill_2 w_541 ok_X3_rowAt (m_rowAt_y hR (Nat.le_refl _) (Nat.le_refl _) (by omega) hk2 q2) hR.1 rfl (by omega) (Nat.le_of_ble_eq_true rfl) (by omega) (by omega) (dx_x (swx_out rfl ?_)) (fun v h' n' _ z => dx_k z)
    rw [opFill, onRw_y hk2 q2]
    exact ⟨rfl, rfl, hR, FrC.rf⟩
  refine sw_V (M' := MX3_rowAt) (d' := d - 1) (bc' := 2) (bs' := 12) (ci := 4) (as := [_]) dX3_fill_2 w_541 ok_X3_rowAt (m_rowAt_k hR (Nat.le_refl _) (Nat.le_refl _) (by omega) hk2 q2) hR.1 rfl (by omega) (Nat.le_of_ble_eq_true rfl) (by omega) (by omega) (fun E h' n' _ z => det_x z) (det_k ?_)
  refine sw_astore_n (pc' := 6) (lv' := [(3, _), (0, _), (1, _), (2, _)]) rfl dX3_fill_5 (by decide +kernel) rfl ?_
  refine sw_iload_n (pc' := 7) rfl dX3_fill_6 rfl ?_
  rcases Classical.em (x < 0 ∨ 100 < x) with q7 | q7
  · refine sw_S (M' := MX3_requireThingOrNothing) (d' := d - 1) (bc' := 1) (bs' := 6) (as := [_]) dX3_fill_7 w_407 ok_X3_requireThingOrNothing (m_requireThingOrNothing_x (Nat.le_refl _) (Nat.le_refl _) q7) (by omega) (Nat.le_of_ble_eq_true rfl) (by omega) (by omega) (dx_x (swx_out rfl ?_)) (fun v h' n' _ z => dx_k z)
    rw [opFill, onRw_k hk2 q2, if_pos q7]
    exact ⟨rfl, rfl, hR, FrC.rf⟩
  refine sw_S (M' := MX3_requireThingOrNothing) (d' := d - 1) (bc' := 1) (bs' := 6) (as := [_]) dX3_fill_7 w_407 ok_X3_requireThingOrNothing (m_requireThingOrNothing_k (Nat.le_refl _) (Nat.le_refl _) q7) (by omega) (Nat.le_of_ble_eq_true rfl) (by omega) (by omega) (fun E h' n' _ z => det_x z) (det_k ?_)
  refine sw_aload_n (pc' := 11) rfl dX3_fill_10 rfl ?_
  refine sw_dup (pc' := 12) rfl dX3_fill_11 rfl ?_
  refine sw_getf (ci := 2) (k := 4) (pc' := 15) rfl dX3_fill_12 (by decide +kernel) w_89 (hR.sh hk2).1 rfl ?_
  refine sw_iconst (pc' := 16) (v := 1) rfl dX3_fill_15 (by decide +kernel) ?_
  refine sw_iadd (pc' := 17) rfl dX3_fill_16 ?_
  refine sw_putf (ci := 2) (k := 4) (pc' := 20) rfl dX3_fill_17 (by decide +kernel) (by decide +kernel) w_89 rfl (hR.sh hk2).1 (hR.sh hk2).2.2.2 (Nat.le_of_ble_eq_true rfl) rfl rfl ?_
  refine sw_nm (fun g1 eg1 => ?_)
  have zk2 := (congrFun eg1 _).trans (up_s (h := h) (i := (102 + 2 * k2)))
  have zk3 := ((congrFun eg1 100).trans (up_n (h := h) (by omega))).trans hR.1
  have zk4 := ((congrFun eg1 ((102 + 2 * k2) + 1)).trans (up_n (h := h) (by omega))).trans (hR.sh hk2).2.1
  refine sw_iconst (pc' := 21) (v := 0) rfl dX3_fill_20 (by decide +kernel) ?_
  refine sw_istore (pc' := 23) (lv' := [(4, _), (3, _), (0, _), (1, _), (2, _)]) rfl dX3_fill_21 (by decide +kernel) rfl ?_
  rw [opFill, onRw_k hk2 q2, if_neg q7]
  refine l_fill (h0 := h) (kd := kdO k2) (f := σ.1 k2) (c := σ.2.1 k2) (s := σ.2.2.1 k2) (t := σ.2.2.2.1 k2 + 1) (by omega) (fun g gS gF => ⟨rfl, rfl, hR.sU hk2 gS gF, gF.c hk2⟩) (σ.2.1 k2) 0 g1 (by omega) ⟨zk2, by rw [fiN_0]; exact zk4, (hR.sh hk2).2.2⟩ (fun i h1 h2 => (congrFun eg1 i).trans ((up_n h1).trans (rfl)))
theorem l_copies {d bc bs n k : Nat} {a x : Int32} {h0 : AH} (hk : k < 11) (hd : 3 ≤ d) (m : Nat) : ∀ (j : Nat) (h : AH) (σ : CS), j + m ≤ 12 → σ.2.1 k + m ≤ 12 → RC h σ → FrC h0 h n → SW SR0 MX3_copies d bc bs 24 [(5, .int (nI j)), (4, .ref (102 + 2 * k)), (0, .ref 100), (1, .int a), (2, .int x), (3, .int (nI (j + m)))] [] h n (CP h0 n (rI (nI ((ldM k x m σ).2.1 k)), ldM k x m σ)) := by
  induction m with
  | zero =>
    intro j h σ hj hm hR hF
    refine sw_iload (pc' := 26) rfl dX3_copies_24 rfl ?_
    refine sw_iload_n (pc' := 27) rfl dX3_copies_26 rfl ?_
    refine sw_icmp_ge (pc' := 30) (tgt := 43) rfl dX3_copies_27 (by decide +kernel) (fun c27 => ?_) (fun c27 => ?_)
    · refine sw_aload (pc' := 45) rfl dX3_copies_43 rfl ?_
      refine sw_getf (ci := 2) (k := 2) (pc' := 48) rfl dX3_copies_45 (by decide +kernel) w_84 (hR.sh hk).1 rfl ?_
      refine sw_ret (v := some _) ⟨dX3_copies_48, _, rfl, rfl⟩ ?_
      exact ⟨rfl, rfl, hR, hF⟩
    · exact absurd (Int32.le_refl _) c27
  | succ m ih =>
    intro j h σ hj hm hR hF
    refine sw_iload (pc' := 26) rfl dX3_copies_24 rfl ?_
    refine sw_iload_n (pc' := 27) rfl dX3_copies_26 rfl ?_
    refine sw_icmp_ge (pc' := 30) (tgt := 43) rfl dX3_copies_27 (by decide +kernel) (fun c27 => ?_) (fun c27 => ?_)
    · exact absurd c27 (nI_ge (by omega) (by omega))
    · refine sw_aload (pc' := 32) rfl dX3_copies_30 rfl ?_
      refine sw_iload_n (pc' := 33) rfl dX3_copies_32 rfl ?_
      refine sw_V (M' := MX1_layDown) (d' := d - 1) (bc' := 0) (bs' := 0) (ci := 2) (as := [_]) dX3_copies_33 w_443 ok_X1_layDown (m_layDown (hR.sh hk) (hR.kd kdO_r) (by omega) (by omega)) (hR.sh hk).1 rfl (by omega) (Nat.le_of_ble_eq_true rfl) (Nat.zero_le _) (Nat.zero_le _) (fun E h' n' _ z => shp_x z) (shp_k (fun p pS pF => ?_))
      refine sw_pop (pc' := 37) rfl dX3_copies_36 rfl ?_
      refine sw_iinc (pc' := 40) (lv' := [(5, _), (4, _), (0, _), (1, _), (2, _), (3, _)]) (v := nI (j + 1)) rfl dX3_copies_37 rfl (nI_succ j).symm (by decide +kernel) rfl ?_
      refine sw_goto (tgt := 24) dX3_copies_40 (by decide +kernel) ?_
      have hu := ldU_c (σ := σ) (k := k) (x := x)
      have g := ih (j + 1) p (ldU σ k x) (by omega) (by omega) (hR.ldS hk pS pF) (hF.tr (pF.c hk) (Nat.le_refl _))
      rw [show j + 1 + m = j + (m + 1) by omega] at g
      exact g
theorem m_copies {h : AH} {σ : CS} {d bc bs n : Nat} {a x m : Int32} (hR : RC h σ) (hd : 6 ≤ d) (hb1 : 20 ≤ bc) (hb2 : 200 ≤ bs) : SM SR0 MX3_copies d bc bs [.ref 100, .int a, .int x, .int m] h n (CP h n (opCopies σ a x m)) := by
  refine sm_of pn_Overwalks rfl (Nat.le_of_ble_eq_true rfl) ?_
  refine sw_aload_n (pc' := 1) rfl dX3_copies_0 rfl ?_
  refine sw_iload_n (pc' := 2) rfl dX3_copies_1 rfl ?_
  rcases idxN 11 (by decide +kernel) a with q2 | ⟨k2, hk2, q2⟩
  · refine sw_V (M' := MX3_rowAt) (d' := d - 1) (bc' := 2) (bs' := 12) (ci := 4) (as := [_]) dX3_copies_2 w_541 ok_X3_rowAt (m_rowAt_x hR (Nat.le_refl _) (Nat.le_refl _) (by omega) q2) hR.1 rfl (by omega) (Nat.le_of_ble_eq_true rfl) (by omega) (by omega) (dx_x (swx_out rfl ?_)) (fun v h' n' _ z => dx_k z)
    rw [opCopies, onRw_x q2]
    exact ⟨rfl, rfl, hR, FrC.rf⟩
  subst q2
  rcases Classical.em (kP (kdO k2) = false) with q2 | q2
  · refine sw_V (M' := MX3_rowAt) (d' := d - 1) (bc' := 2) (bs' := 12) (ci := 4) (as := [_]) dX3_copies_2 w_541 ok_X3_rowAt (m_rowAt_y hR (Nat.le_refl _) (Nat.le_refl _) (by omega) hk2 q2) hR.1 rfl (by omega) (Nat.le_of_ble_eq_true rfl) (by omega) (by omega) (dx_x (swx_out rfl ?_)) (fun v h' n' _ z => dx_k z)
    rw [opCopies, onRw_y hk2 q2]
    exact ⟨rfl, rfl, hR, FrC.rf⟩
  refine sw_V (M' := MX3_rowAt) (d' := d - 1) (bc' := 2) (bs' := 12) (ci := 4) (as := [_]) dX3_copies_2 w_541 ok_X3_rowAt (m_rowAt_k hR (Nat.le_refl _) (Nat.le_refl _) (by omega) hk2 q2) hR.1 rfl (by omega) (Nat.le_of_ble_eq_true rfl) (by omega) (by omega) (fun E h' n' _ z => det_x z) (det_k ?_)
  refine sw_astore (pc' := 7) (lv' := [(4, _), (0, _), (1, _), (2, _), (3, _)]) rfl dX3_copies_5 (by decide +kernel) rfl ?_
  refine sw_iload_n (pc' := 8) rfl dX3_copies_7 rfl ?_
  rcases Classical.em (x < 0 ∨ 100 < x) with q8 | q8
  · refine sw_S (M' := MX3_requireThingOrNothing) (d' := d - 1) (bc' := 1) (bs' := 6) (as := [_]) dX3_copies_8 w_407 ok_X3_requireThingOrNothing (m_requireThingOrNothing_x (Nat.le_refl _) (Nat.le_refl _) q8) (by omega) (Nat.le_of_ble_eq_true rfl) (by omega) (by omega) (dx_x (swx_out rfl ?_)) (fun v h' n' _ z => dx_k z)
    rw [opCopies, onRw_k hk2 q2, if_pos q8]
    exact ⟨rfl, rfl, hR, FrC.rf⟩
  refine sw_S (M' := MX3_requireThingOrNothing) (d' := d - 1) (bc' := 1) (bs' := 6) (as := [_]) dX3_copies_8 w_407 ok_X3_requireThingOrNothing (m_requireThingOrNothing_k (Nat.le_refl _) (Nat.le_refl _) q8) (by omega) (Nat.le_of_ble_eq_true rfl) (by omega) (by omega) (fun E h' n' _ z => det_x z) (det_k ?_)
  refine sw_iload_n (pc' := 12) rfl dX3_copies_11 rfl ?_
  rcases Classical.em (m < 0 ∨ 12 < m) with q12 | q12
  · refine sw_S (M' := MX3_requireUpToRoom) (d' := d - 1) (bc' := 1) (bs' := 6) (as := [_]) dX3_copies_12 w_620 ok_X3_requireUpToRoom (m_requireUpToRoom_x (Nat.le_refl _) (Nat.le_refl _) q12) (by omega) (Nat.le_of_ble_eq_true rfl) (by omega) (by omega) (dx_x (swx_out rfl ?_)) (fun v h' n' _ z => dx_k z)
    rw [opCopies, onRw_k hk2 q2, if_neg q8, if_pos q12]
    exact ⟨rfl, rfl, hR, FrC.rf⟩
  refine sw_S (M' := MX3_requireUpToRoom) (d' := d - 1) (bc' := 1) (bs' := 6) (as := [_]) dX3_copies_12 w_620 ok_X3_requireUpToRoom (m_requireUpToRoom_k (Nat.le_refl _) (Nat.le_refl _) q12) (by omega) (Nat.le_of_ble_eq_true rfl) (by omega) (by omega) (fun E h' n' _ z => det_x z) (det_k ?_)
  refine sw_aload (pc' := 17) rfl dX3_copies_15 rfl ?_
  refine sw_iload_n (pc' := 18) rfl dX3_copies_17 rfl ?_
  rcases Classical.em (12 < nI (σ.2.1 k2) + m) with q18 | q18
  · refine sw_S (M' := MX3_requireRoom) (d' := d - 1) (bc' := 1) (bs' := 6) (as := [_, _]) dX3_copies_18 w_411 ok_X3_requireRoom (m_requireRoom_x (hR.sh hk2) (Nat.le_refl _) (Nat.le_refl _) q18) (by omega) (Nat.le_of_ble_eq_true rfl) (by omega) (by omega) (dx_x (swx_out rfl ?_)) (fun v h' n' _ z => dx_k z)
    rw [opCopies, onRw_k hk2 q2, if_neg q8, if_neg q12, if_pos q18]
    exact ⟨rfl, rfl, hR, FrC.rf⟩
  refine sw_S (M' := MX3_requireRoom) (d' := d - 1) (bc' := 1) (bs' := 6) (as := [_, _]) dX3_copies_18 w_411 ok_X3_requireRoom (m_requireRoom_k (hR.sh hk2) (Nat.le_refl _) (Nat.le_refl _) q18) (by omega) (Nat.le_of_ble_eq_true rfl) (by omega) (by omega) (fun E h' n' _ z => det_x z) (det_k ?_)
  obtain ⟨i, hi, ei⟩ := nI_of (fun e => q12 (Or.inl e))
  subst ei
  have hi2 : i ≤ 12 := (nI_leI (b := 12) hi (by decide +kernel)).mp (Int32.not_lt.mp (fun e => q12 (Or.inr e)))
  have hc := (hR.sh hk2).2.2.1
  have hci := nI_room hc hi2 q18
  refine sw_iconst (pc' := 22) (v := 0) rfl dX3_copies_21 (by decide +kernel) ?_
  refine sw_istore (pc' := 24) (lv' := [(5, _), (4, _), (0, _), (1, _), (2, _), (3, _)]) rfl dX3_copies_22 (by decide +kernel) rfl ?_
  rw [opCopies, onRw_k hk2 q2, if_neg q8, if_neg q12, if_neg q18, nI_clamp hi]
  have g := l_copies (d := d) (bc := bc - 2 - 1 - 1 - 1) (bs := bs - 12 - 6 - 6 - 6) (n := n) (a := nI k2) (x := x) (h0 := h) hk2 (by omega) i 0 h σ (by omega) hci hR FrC.rf
  rw [Nat.zero_add] at g
  exact g
