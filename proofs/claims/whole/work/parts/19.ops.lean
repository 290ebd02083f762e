/-! more calls -/
def opSwap (σ : CS) (a p o : Int32) : ARes × CS := onRw a σ (fun k => if p < 0 ∨ nI (σ.2.1 k) ≤ p then (xI, σ) else if o < 0 ∨ nI (σ.2.1 k) ≤ o then (xI, σ) else (rI (σ.1 k o.toNatClampNeg), sU σ k (up (up (σ.1 k) p.toNatClampNeg (σ.1 k o.toNatClampNeg)) o.toNatClampNeg (σ.1 k p.toNatClampNeg)) (σ.2.1 k) (σ.2.2.1 k) (σ.2.2.2.1 k + 1)))
/-- one thing is LIFTED from place j of SHELF k -/
def lf1 (σ : CS) (k j : Nat) : CS := sU σ k (liN (σ.1 k) j (σ.2.1 k - 1)) (σ.2.1 k - 1) (σ.2.2.1 k + 1) (σ.2.2.2.1 k)
def liU (σ : CS) (k j : Nat) : CS := if kdO k = 5 then lf1 (lf1 σ 6 j) 7 j else lf1 σ k j
/-- all is lifted -/
def la1 (σ : CS) (k : Nat) : CS := sU σ k (σ.1 k) 0 (if σ.2.1 k = 0 then σ.2.2.1 k else σ.2.2.1 k + 1) (σ.2.2.2.1 k)
def laU (σ : CS) (k : Nat) : CS := if kdO k = 5 then la1 (la1 σ 6) 7 else la1 σ k
def opClear (σ : CS) (a : Int32) : ARes × CS := onSh a σ (fun k => (rI (nI (σ.2.1 k)), laU σ k))
def opTake (σ : CS) (a x : Int32) : ARes × CS := onSh a σ (fun k => if x < 0 ∨ 100 < x then (xA, σ) else if tkB k x = false then (rI (-9), rfU σ) else match fpN (σ.1 k) x 0 (σ.2.1 k) with | none => (rI 0, σ) | some p => (rI 1, liU σ k p))
theorem kd5 {k : Nat} (hk : k < 11) (e : kdO k = 5) : k = 6 ∨ k = 7 := by
  unfold kdO at e
  split at e
  · omega
  · split at e
    · omega
    · split at e
      · omega
      · split at e
        · omega
        · split at e <;> omega
theorem sh_pred {h : AH} {b kd c j : Nat} {f : Nat → Int32} {s t : Int32} (hS : ShF h b kd f c s t) (hj : j < c) : ShF h b kd f (c - 1 + 1) s t := by
  rw [Nat.sub_add_cancel (by omega)]
  exact hS
theorem m_swap {h : AH} {σ : CS} {d bc bs n : Nat} {a p o : Int32} (hR : RC h σ) (hd : 6 ≤ d) (hb1 : 20 ≤ bc) (hb2 : 200 ≤ bs) : SM SR0 MX3_swap d bc bs [.ref 100, .int a, .int p, .int o] h n (CP h n (opSwap σ a p o)) := by
  refine sm_of pn_Overwalks rfl (Nat.le_of_ble_eq_true rfl) ?_
  refine sw_aload_n (pc' := 1) rfl dX3_swap_0 rfl ?_
  refine sw_iload_n (pc' := 2) rfl dX3_swap_1 rfl ?_
  rcases idxN 11 (by decide +kernel) a with q2 | ⟨k2, hk2, q2⟩
  · refine sw_V (M' := MX3_rowAt) (d' := d - 1) (bc' := 2) (bs' := 12) (ci := 4) (as := [_]) dX3_swap_2 w_541 ok_X3_rowAt (m_rowAt_x hR (Nat.le_refl _) (Nat.le_refl _) (by omega) q2) hR.1 rfl (by omega) (Nat.le_of_ble_eq_true rfl) (by omega) (by omega) (dx_x (swx_out rfl ?_)) (fun v h' n' _ z => dx_k z)
    rw [opSwap, onRw_x q2]
    exact ⟨rfl, rfl, hR, FrC.rf⟩
  subst q2
  rcases Classical.em (kP (kdO k2) = false) with q2 | q2
  · refine sw_V (M' := MX3_rowAt) (d' := d - 1) (bc' := 2) (bs' := 12) (ci := 4) (as := [_]) dX3_swap_2 w_541 ok_X3_rowAt (m_rowAt_y hR (Nat.le_refl _) (Nat.le_refl _) (by omega) hk2 q2) hR.1 rfl (by omega) (Nat.le_of_ble_eq_true rfl) (by omega) (by omega) (dx_x (swx_out rfl ?_)) (fun v h' n' _ z => dx_k z)
    rw [opSwap, onRw_y hk2 q2]
    exact ⟨rfl, rfl, hR, FrC.rf⟩
  refine sw_V (M' := MX3_rowAt) (d' := d - 1) (bc' := 2) (bs' := 12) (ci := 4) (as := [_]) dX3_swap_2 w_541 ok_X3_rowAt (m_rowAt_k hR (Nat.le_refl _) (Nat.le_refl _) (by omega) hk2 q2) hR.1 rfl (by omega) (Nat.le_of_ble_eq_true rfl) (by omega) (by omega) (fun E h' n' _ z => det_x z) (det_k ?_)
  refine sw_astore (pc' := 7) (lv' := [(4, _), (0, _), (1, _), (2, _), (3, _)]) rfl dX3_swap_5 (by decide +kernel) rfl ?_
  refine sw_iload_n (pc' := 8) rfl dX3_swap_7 rfl ?_
  refine sw_aload (pc' := 10) rfl dX3_swap_8 rfl ?_
  refine sw_getf (ci := 2) (k := 2) (pc' := 13) rfl dX3_swap_10 (by decide +kernel) w_84 (hR.sh hk2).1 rfl ?_
  rcases Classical.em (p < 0 ∨ nI (σ.2.1 k2) ≤ p) with q13 | q13
  · refine sw_S (M' := MX3_requirePlace) (d' := d - 1) (bc' := 1) (bs' := 6) (as := [_, _]) dX3_swap_13 w_546 ok_X3_requirePlace (m_requirePlace_x (Nat.le_refl _) (Nat.le_refl _) q13) (by omega) (Nat.le_of_ble_eq_true rfl) (by omega) (by omega) (dx_x (swx_out rfl ?_)) (fun v h' n' _ z => dx_k z)
    rw [opSwap, onRw_k hk2 q2, if_pos q13]
    exact ⟨rfl, rfl, hR, FrC.rf⟩
  refine sw_S (M' := MX3_requirePlace) (d' := d - 1) (bc' := 1) (bs' := 6) (as := [_, _]) dX3_swap_13 w_546 ok_X3_requirePlace (m_requirePlace_k (Nat.le_refl _) (Nat.le_refl _) q13) (by omega) (Nat.le_of_ble_eq_true rfl) (by omega) (by omega) (fun E h' n' _ z => det_x z) (det_k ?_)
  refine sw_iload_n (pc' := 17) rfl dX3_swap_16 rfl ?_
  refine sw_aload (pc' := 19) rfl dX3_swap_17 rfl ?_
  refine sw_getf (ci := 2) (k := 2) (pc' := 22) rfl dX3_swap_19 (by decide +kernel) w_84 (hR.sh hk2).1 rfl ?_
  rcases Classical.em (o < 0 ∨ nI (σ.2.1 k2) ≤ o) with q22 | q22
  · refine sw_S (M' := MX3_requirePlace) (d' := d - 1) (bc' := 1) (bs' := 6) (as := [_, _]) dX3_swap_22 w_546 ok_X3_requirePlace (m_requirePlace_x (Nat.le_refl _) (Nat.le_refl _) q22) (by omega) (Nat.le_of_ble_eq_true rfl) (by omega) (by omega) (dx_x (swx_out rfl ?_)) (fun v h' n' _ z => dx_k z)
    rw [opSwap, onRw_k hk2 q2, if_neg q13, if_pos q22]
    exact ⟨rfl, rfl, hR, FrC.rf⟩
  refine sw_S (M' := MX3_requirePlace) (d' := d - 1) (bc' := 1) (bs' := 6) (as := [_, _]) dX3_swap_22 w_546 ok_X3_requirePlace (m_requirePlace_k (Nat.le_refl _) (Nat.le_refl _) q22) (by omega) (Nat.le_of_ble_eq_true rfl) (by omega) (by omega) (fun E h' n' _ z => det_x z) (det_k ?_)
  obtain ⟨j, hj, ej⟩ := nI_of (fun e => q13 (Or.inl e))
  obtain ⟨i, hi, ei⟩ := nI_of (fun e => q22 (Or.inl e))
  have hc := (hR.sh hk2).2.2.1
  have hjc : j < σ.2.1 k2 := plc (by omega) hj ej q13
  have hic : i < σ.2.1 k2 := plc (by omega) hi ei q22
  subst ej ei
  refine sw_aload (pc' := 27) rfl dX3_swap_25 rfl ?_
  refine sw_dup (pc' := 28) rfl dX3_swap_27 rfl ?_
  refine sw_getf (ci := 2) (k := 4) (pc' := 31) rfl dX3_swap_28 (by decide +kernel) w_89 (hR.sh hk2).1 rfl ?_
  refine sw_iconst (pc' := 32) (v := 1) rfl dX3_swap_31 (by decide +kernel) ?_
  refine sw_iadd (pc' := 33) rfl dX3_swap_32 ?_
  refine sw_putf (ci := 2) (k := 4) (pc' := 36) rfl dX3_swap_33 (by decide +kernel) (by decide +kernel) w_89 rfl (hR.sh hk2).1 (hR.sh hk2).2.2.2 (Nat.le_of_ble_eq_true rfl) rfl rfl ?_
  refine sw_nm (fun g1 eg1 => ?_)
  have zk2 := (congrFun eg1 _).trans (up_s (h := h) (i := (102 + 2 * k2)))
  have zk3 := ((congrFun eg1 100).trans (up_n (h := h) (by omega))).trans hR.1
  have zk4 := ((congrFun eg1 ((102 + 2 * k2) + 1)).trans (up_n (h := h) (by omega))).trans (hR.sh hk2).2.1
  refine sw_aload (pc' := 38) rfl dX3_swap_36 rfl ?_
  refine sw_iload_n (pc' := 39) rfl dX3_swap_38 rfl ?_
  refine sw_aload (pc' := 41) rfl dX3_swap_39 rfl ?_
  refine sw_iload_n (pc' := 42) rfl dX3_swap_41 rfl ?_
  refine sw_aload (pc' := 44) rfl dX3_swap_42 rfl ?_
  refine sw_iload_n (pc' := 45) rfl dX3_swap_44 rfl ?_
  refine sw_V (M' := MX1_thingAt) (d' := d - 1) (bc' := 0) (bs' := 0) (ci := 2) (as := [_]) dX3_swap_45 w_230 ok_X1_thingAt (m_thingAt (show ShF g1 (102 + 2 * k2) (kdO k2) (σ.1 k2) (σ.2.1 k2) (σ.2.2.1 k2) (σ.2.2.2.1 k2 + 1) from ⟨zk2, zk4, (hR.sh hk2).2.2⟩)) (show ShF g1 (102 + 2 * k2) (kdO k2) (σ.1 k2) (σ.2.1 k2) (σ.2.2.1 k2) (σ.2.2.2.1 k2 + 1) from ⟨zk2, zk4, (hR.sh hk2).2.2⟩).1 rfl (by omega) (Nat.le_of_ble_eq_true rfl) (by omega) (by omega) (fun E h' n' _ z => det_x z) (det_k ?_)
  refine sw_V (M' := MX1_exchange) (d' := d - 1) (bc' := 0) (bs' := 0) (ci := 2) (as := [_, _]) dX3_swap_48 w_512 ok_X1_exchange (m_exchange (j := j) (show ShF g1 (102 + 2 * k2) (kdO k2) (σ.1 k2) (σ.2.1 k2) (σ.2.2.1 k2) (σ.2.2.2.1 k2 + 1) from ⟨zk2, zk4, (show ShF g1 (102 + 2 * k2) (kdO k2) (σ.1 k2) (σ.2.1 k2) (σ.2.2.1 k2) (σ.2.2.2.1 k2 + 1) from ⟨zk2, zk4, (hR.sh hk2).2.2⟩).2.2⟩) hjc) (show ShF g1 (102 + 2 * k2) (kdO k2) (σ.1 k2) (σ.2.1 k2) (σ.2.2.1 k2) (σ.2.2.2.1 k2 + 1) from ⟨zk2, zk4, (show ShF g1 (102 + 2 * k2) (kdO k2) (σ.1 k2) (σ.2.1 k2) (σ.2.2.1 k2) (σ.2.2.2.1 k2 + 1) from ⟨zk2, zk4, (hR.sh hk2).2.2⟩).2.2⟩).1 rfl (by omega) (Nat.le_of_ble_eq_true rfl) (by omega) (by omega) (fun E h' n' _ z => shp_x z) (shp_k (fun p48 p48S p48F => ?_))
  refine sw_V (M' := MX1_exchange) (d' := d - 1) (bc' := 0) (bs' := 0) (ci := 2) (as := [_, _]) dX3_swap_51 w_512 ok_X1_exchange (m_exchange (j := i) p48S hic) p48S.1 rfl (by omega) (Nat.le_of_ble_eq_true rfl) (by omega) (by omega) (fun E h' n' _ z => shp_x z) (shp_k (fun p51 p51S p51F => ?_))
  refine sw_pop (pc' := 55) rfl dX3_swap_54 rfl ?_
  refine sw_aload (pc' := 57) rfl dX3_swap_55 rfl ?_
  refine sw_iload_n (pc' := 58) rfl dX3_swap_57 rfl ?_
  refine sw_V (M' := MX1_thingAt) (d' := d - 1) (bc' := 0) (bs' := 0) (ci := 2) (as := [_]) dX3_swap_58 w_230 ok_X1_thingAt (m_thingAt p51S) p51S.1 rfl (by omega) (Nat.le_of_ble_eq_true rfl) (by omega) (by omega) (fun E h' n' _ z => det_x z) (det_k ?_)
  refine sw_ret (v := some _) ⟨dX3_swap_61, _, rfl, rfl⟩ ?_
  have e1 : up (up (σ.1 k2) j (σ.1 k2 i)) i (σ.1 k2 j) j = σ.1 k2 i := by
    by_cases e : j = i
    · rw [e, up_s]
    · rw [up_n e, up_s]
  rw [taI_in hjc hc]
  rw [taI_in hic hc] at p51S
  rw [opSwap, onRw_k hk2 q2, if_neg q13, if_neg q22, nI_clamp hj, nI_clamp hi]
  exact ⟨by rw [taI_in hic hc, e1]; rfl, rfl, (hR.sU hk2 p51S (((show FrS h g1 (102 + 2 * k2) from (fun i h1 h2 => (congrFun eg1 i).trans ((up_n h1).trans (rfl)))).tr p48F).tr p51F)), ((((show FrS h g1 (102 + 2 * k2) from (fun i h1 h2 => (congrFun eg1 i).trans ((up_n h1).trans (rfl)))).tr p48F).tr p51F).c hk2)⟩
theorem m_drop {h : AH} {σ : CS} {d bc bs n : Nat} {a : Int32} (hR : RC h σ) (hd : 6 ≤ d) (hb1 : 20 ≤ bc) (hb2 : 200 ≤ bs) : SM SR0 MX3_drop d bc bs [.ref 100, .int a] h n (CP h n (opDrop σ a)) := by
  refine sm_of pn_Overwalks rfl (Nat.le_of_ble_eq_true rfl) ?_
  refine sw_aload_n (pc' := 1) rfl dX3_drop_0 rfl ?_
  refine sw_iload_n (pc' := 2) rfl dX3_drop_1 rfl ?_
  rcases idxN 6 (by decide +kernel) a with q2 | ⟨k2, hk2, q2⟩
  · refine sw_V (M' := MX3_walkAt) (d' := d - 1) (bc' := 1) (bs' := 6) (ci := 4) (as := [_]) dX3_drop_2 w_357 ok_X3_walkAt (m_walkAt_x hR (Nat.le_refl _) (Nat.le_refl _) q2) hR.1 rfl (by omega) (Nat.le_of_ble_eq_true rfl) (by omega) (by omega) (dx_x (swx_out rfl ?_)) (fun v h' n' _ z => dx_k z)
    rw [opDrop, onWk_x q2]
    exact ⟨rfl, rfl, hR, FrC.rf⟩
  subst q2
  refine sw_V (M' := MX3_walkAt) (d' := d - 1) (bc' := 1) (bs' := 6) (ci := 4) (as := [_]) dX3_drop_2 w_357 ok_X3_walkAt (m_walkAt_k hR (Nat.le_refl _) (Nat.le_refl _) hk2) hR.1 rfl (by omega) (Nat.le_of_ble_eq_true rfl) (by omega) (by omega) (fun E h' n' _ z => det_x z) (det_k ?_)
  refine sw_astore_n (pc' := 6) (lv' := [(2, _), (0, _), (1, _)]) rfl dX3_drop_5 (by decide +kernel) rfl ?_
  refine sw_aload_n (pc' := 7) rfl dX3_drop_6 rfl ?_
  refine sw_getf (ci := 3) (k := 0) (pc' := 10) rfl dX3_drop_7 (by decide +kernel) w_118 (hR.wk hk2).2.1 rfl ?_
  refine sw_istore_n (pc' := 11) (lv' := [(3, _), (2, _), (0, _), (1, _)]) rfl dX3_drop_10 (by decide +kernel) rfl ?_
  have ov : wO σ k2 < 11 := (hR.wk hk2).1
  refine sw_aload_n (pc' := 12) rfl dX3_drop_11 rfl ?_
  refine sw_iconst (pc' := 13) (v := 0) rfl dX3_drop_12 (by decide +kernel) ?_
  refine sw_putf (ci := 3) (k := 0) (pc' := 16) rfl dX3_drop_13 (by decide +kernel) (by decide +kernel) w_118 rfl (hR.wk hk2).2.1 (hR.wk hk2).2.2 (Nat.le_of_ble_eq_true rfl) rfl rfl ?_
  refine sw_nm (fun g1 eg1 => ?_)
  have zk2 := (congrFun eg1 _).trans (up_s (h := h) (i := (125 + k2)))
  have zk3 := ((congrFun eg1 100).trans (up_n (h := h) (by omega))).trans hR.1
  have zk4 := ((congrFun eg1 (102 + 2 * wO σ k2)).trans (up_n (h := h) (by omega))).trans (hR.sh (hR.wk hk2).1).1
  have zk5 := ((congrFun eg1 ((102 + 2 * wO σ k2) + 1)).trans (up_n (h := h) (by omega))).trans (hR.sh (hR.wk hk2).1).2.1
  refine sw_iload_n (pc' := 17) rfl dX3_drop_16 rfl ?_
  refine sw_S (M' := MX3_oneIf) (d' := d - 1) (bc' := 0) (bs' := 0) (as := [_]) dX3_drop_17 w_277 ok_X3_oneIf (m_oneIf) (by omega) (Nat.le_of_ble_eq_true rfl) (by omega) (by omega) (fun E h' n' _ z => det_x z) (det_k ?_)
  refine sw_ret (v := some _) ⟨dX3_drop_20, _, rfl, rfl⟩ ?_
  have hF : FrW h g1 (125 + k2) := (fun i h1 => (congrFun eg1 i).trans ((up_n h1).trans (rfl)))
  rw [opDrop, onWk_k hk2]
  exact ⟨rfl, rfl, hR.wU hk2 ⟨(hR.wk hk2).1, ⟨zk2, (hR.wk hk2).2.2⟩⟩ hF, hF.c (by omega) (by omega)⟩
theorem m_walk {h : AH} {σ : CS} {d bc bs n : Nat} {a b y : Int32} (hR : RC h σ) (hd : 6 ≤ d) (hb1 : 20 ≤ bc) (hb2 : 200 ≤ bs) : SM SR0 MX3_walk d bc bs [.ref 100, .int a, .int b, .int y] h n (CP h n (opWalk σ a b y)) := by
  refine sm_of pn_Overwalks rfl (Nat.le_of_ble_eq_true rfl) ?_
  refine sw_aload_n (pc' := 1) rfl dX3_walk_0 rfl ?_
  refine sw_iload_n (pc' := 2) rfl dX3_walk_1 rfl ?_
  rcases idxN 6 (by decide +kernel) a with q2 | ⟨k2, hk2, q2⟩
  · refine sw_V (M' := MX3_walkAt) (d' := d - 1) (bc' := 1) (bs' := 6) (ci := 4) (as := [_]) dX3_walk_2 w_357 ok_X3_walkAt (m_walkAt_x hR (Nat.le_refl _) (Nat.le_refl _) q2) hR.1 rfl (by omega) (Nat.le_of_ble_eq_true rfl) (by omega) (by omega) (dx_x (swx_out rfl ?_)) (fun v h' n' _ z => dx_k z)
    rw [opWalk, onWk_x q2]
    exact ⟨rfl, rfl, hR, FrC.rf⟩
  subst q2
  refine sw_V (M' := MX3_walkAt) (d' := d - 1) (bc' := 1) (bs' := 6) (ci := 4) (as := [_]) dX3_walk_2 w_357 ok_X3_walkAt (m_walkAt_k hR (Nat.le_refl _) (Nat.le_refl _) hk2) hR.1 rfl (by omega) (Nat.le_of_ble_eq_true rfl) (by omega) (by omega) (fun E h' n' _ z => det_x z) (det_k ?_)
  refine sw_astore (pc' := 7) (lv' := [(4, _), (0, _), (1, _), (2, _), (3, _)]) rfl dX3_walk_5 (by decide +kernel) rfl ?_
  refine sw_aload_n (pc' := 8) rfl dX3_walk_7 rfl ?_
  refine sw_iload_n (pc' := 9) rfl dX3_walk_8 rfl ?_
  rcases idxN 11 (by decide +kernel) b with q9 | ⟨k9, hk9, q9⟩
  · refine sw_V (M' := MX3_shelfAt) (d' := d - 1) (bc' := 1) (bs' := 6) (ci := 4) (as := [_]) dX3_walk_9 w_402 ok_X3_shelfAt (m_shelfAt_x hR (Nat.le_refl _) (Nat.le_refl _) q9) hR.1 rfl (by omega) (Nat.le_of_ble_eq_true rfl) (by omega) (by omega) (dx_x (swx_out rfl ?_)) (fun v h' n' _ z => dx_k z)
    rw [opWalk, onWk_k hk2, onSh_x q9]
    exact ⟨rfl, rfl, hR, FrC.rf⟩
  subst q9
  refine sw_V (M' := MX3_shelfAt) (d' := d - 1) (bc' := 1) (bs' := 6) (ci := 4) (as := [_]) dX3_walk_9 w_402 ok_X3_shelfAt (m_shelfAt_k hR (Nat.le_refl _) (Nat.le_refl _) hk9) hR.1 rfl (by omega) (Nat.le_of_ble_eq_true rfl) (by omega) (by omega) (fun E h' n' _ z => det_x z) (det_k ?_)
  refine sw_astore (pc' := 14) (lv' := [(5, _), (4, _), (0, _), (1, _), (2, _), (3, _)]) rfl dX3_walk_12 (by decide +kernel) rfl ?_
  refine sw_iload_n (pc' := 15) rfl dX3_walk_14 rfl ?_
  refine sw_if_lt (pc' := 18) (tgt := 23) rfl dX3_walk_15 (by decide +kernel) (fun c15 => ?_) (fun c15 => ?_)
  · refine sw_throw (names := ["java/lang/RuntimeException", "java/lang/Exception"]) rfl dX3_walk_23 dX3_walk_26 dX3_walk_27 dX3_walk_29 dX3_walk_32 (by decide +kernel) (by decide +kernel) (by decide +kernel) w_285 w_50 (SRm 12 rfl) th_Overwalks_154 (by omega) (by omega) ?_
    rw [opWalk, onWk_k hk2, onSh_k hk9, if_pos (Or.inl c15)]
    exact ⟨rfl, rfl, hR, FrC.rf⟩
  · refine sw_iload_n (pc' := 19) rfl dX3_walk_18 rfl ?_
    refine sw_iconst (pc' := 20) (v := 2) rfl dX3_walk_19 (by decide +kernel) ?_
    refine sw_icmp_le (pc' := 23) (tgt := 33) rfl dX3_walk_20 (by decide +kernel) (fun c20 => ?_) (fun c20 => ?_)
    · refine sw_iload_n (pc' := 34) rfl dX3_walk_33 rfl ?_
      refine sw_iconst (pc' := 35) (v := 2) rfl dX3_walk_34 (by decide +kernel) ?_
      refine sw_icmp_ne (pc' := 38) (tgt := 52) rfl dX3_walk_35 (by decide +kernel) (fun c35 => ?_) (fun c35 => ?_)
      · have ov : wO σ k2 < 11 := (hR.wk hk2).1
        refine sw_aload (pc' := 54) rfl dX3_walk_52 rfl ?_
        refine sw_aload (pc' := 56) rfl dX3_walk_54 rfl ?_
        refine sw_iload_n (pc' := 57) rfl dX3_walk_56 rfl ?_
        refine sw_iload_n (pc' := 58) rfl dX3_walk_57 rfl ?_
        refine sw_V (M' := MX2_begin) (d' := d - 1) (bc' := 0) (bs' := 0) (ci := 3) (as := [_, _, _]) dX3_walk_58 w_184 ok_X2_begin (m_begin (hR.wk hk2).2 (hR.sh hk9) (by omega)) (hR.wk hk2).2.1 rfl (by omega) (Nat.le_of_ble_eq_true rfl) (by omega) (by omega) (fun E h' n' _ z => wkp_x z) (wkp_k (fun p58 p58W p58F => ?_))
        refine sw_aload (pc' := 63) rfl dX3_walk_61 rfl ?_
        refine sw_getf (ci := 2) (k := 2) (pc' := 66) rfl dX3_walk_63 (by decide +kernel) w_84 ((p58F (102 + 2 * k9) (by omega)).trans (hR.sh hk9).1) rfl ?_
        refine sw_ret (v := some _) ⟨dX3_walk_66, _, rfl, rfl⟩ ?_
        rw [opWalk, onWk_k hk2, onSh_k hk9, if_neg (fun q => q.elim c15 (Int32.not_lt.mpr c20)), if_neg (fun q => c35 q.1)]
        exact ⟨rfl, rfl, (hR.wU hk2 ⟨hk9, p58W⟩ p58F), (p58F.c (by omega) (by omega))⟩
      · refine sw_iload_n (pc' := 39) rfl dX3_walk_38 rfl ?_
        refine sw_if_eq (pc' := 42) (tgt := 52) rfl dX3_walk_39 (by decide +kernel) (fun c39 => ?_) (fun c39 => ?_)
        · have ov : wO σ k2 < 11 := (hR.wk hk2).1
          refine sw_aload (pc' := 54) rfl dX3_walk_52 rfl ?_
          refine sw_aload (pc' := 56) rfl dX3_walk_54 rfl ?_
          refine sw_iload_n (pc' := 57) rfl dX3_walk_56 rfl ?_
          refine sw_iload_n (pc' := 58) rfl dX3_walk_57 rfl ?_
          refine sw_V (M' := MX2_begin) (d' := d - 1) (bc' := 0) (bs' := 0) (ci := 3) (as := [_, _, _]) dX3_walk_58 w_184 ok_X2_begin (m_begin (hR.wk hk2).2 (hR.sh hk9) (by omega)) (hR.wk hk2).2.1 rfl (by omega) (Nat.le_of_ble_eq_true rfl) (by omega) (by omega) (fun E h' n' _ z => wkp_x z) (wkp_k (fun p58 p58W p58F => ?_))
          refine sw_aload (pc' := 63) rfl dX3_walk_61 rfl ?_
          refine sw_getf (ci := 2) (k := 2) (pc' := 66) rfl dX3_walk_63 (by decide +kernel) w_84 ((p58F (102 + 2 * k9) (by omega)).trans (hR.sh hk9).1) rfl ?_
          refine sw_ret (v := some _) ⟨dX3_walk_66, _, rfl, rfl⟩ ?_
          rw [opWalk, onWk_k hk2, onSh_k hk9, if_neg (fun q => q.elim c15 (Int32.not_lt.mpr c20)), if_neg (fun q => q.2 c39)]
          exact ⟨rfl, rfl, (hR.wU hk2 ⟨hk9, p58W⟩ p58F), (p58F.c (by omega) (by omega))⟩
        · refine sw_throw (names := ["java/lang/RuntimeException", "java/lang/Exception"]) rfl dX3_walk_42 dX3_walk_45 dX3_walk_46 dX3_walk_48 dX3_walk_51 (by decide +kernel) (by decide +kernel) (by decide +kernel) w_285 w_50 (SRm 13 rfl) th_Overwalks_154 (by omega) (by omega) ?_
          rw [opWalk, onWk_k hk2, onSh_k hk9, if_neg (fun q => q.elim c15 (Int32.not_lt.mpr c20)), if_pos ⟨c35, c39⟩]
          exact ⟨rfl, rfl, hR, FrC.rf⟩
    · refine sw_throw (names := ["java/lang/RuntimeException", "java/lang/Exception"]) rfl dX3_walk_23 dX3_walk_26 dX3_walk_27 dX3_walk_29 dX3_walk_32 (by decide +kernel) (by decide +kernel) (by decide +kernel) w_285 w_50 (SRm 12 rfl) th_Overwalks_154 (by omega) (by omega) ?_
      rw [opWalk, onWk_k hk2, onSh_k hk9, if_pos (Or.inr (Int32.not_le.mp c20))]
      exact ⟨rfl, rfl, hR, FrC.rf⟩
theorem m_liftFrom {h : AH} {σ : CS} {d bc bs n k j : Nat} (hR : RC h σ) (hk : k < 11) (hj : j < σ.2.1 k) (hT : σ.2.1 6 = σ.2.1 7) (hd : 1 ≤ d) : SM SR0 MX3_liftFrom d bc bs [.ref 100, .ref (102 + 2 * k), .int (nI j)] h n (CP h n (ivN, liU σ k j)) := by
  refine sm_of pn_Overwalks rfl (Nat.le_of_ble_eq_true rfl) ?_
  refine sw_aload_n (pc' := 1) rfl dX3_liftFrom_0 rfl ?_
  refine sw_V (M' := MX1_isOfTable) (d' := d - 1) (bc' := 0) (bs' := 0) (ci := 2) (as := []) dX3_liftFrom_1 w_430 ok_X1_isOfTable (m_isOfTable (hR.sh hk) kdO_r) (hR.sh hk).1 rfl (by omega) (Nat.le_of_ble_eq_true rfl) (by omega) (by omega) (fun E h' n' _ z => det_x z) (det_k ?_)
  refine sw_if_eq (pc' := 7) (tgt := 34) rfl dX3_liftFrom_4 (by decide +kernel) (fun c4 => ?_) (fun c4 => ?_)
  · refine sw_aload_n (pc' := 35) rfl dX3_liftFrom_34 rfl ?_
    refine sw_iload_n (pc' := 36) rfl dX3_liftFrom_35 rfl ?_
    refine sw_V (M' := MX1_lift) (d' := d - 1) (bc' := 0) (bs' := 0) (ci := 2) (as := [_]) dX3_liftFrom_36 w_486 ok_X1_lift (m_lift (j := j) (sh_pred (hR.sh (k := k) hk) hj) (by omega)) (hR.sh (k := k) hk).1 rfl (by omega) (Nat.le_of_ble_eq_true rfl) (by omega) (by omega) (fun E h' n' _ z => shp_x z) (shp_k (fun p36 p36S p36F => ?_))
    have p36R : RC p36 (lf1 σ k j) := hR.sU hk p36S p36F
    have p36C : FrC h p36 n := p36F.c hk
    refine sw_pop (pc' := 40) rfl dX3_liftFrom_39 rfl ?_
    refine sw_ret (v := none) ⟨dX3_liftFrom_40, rfl⟩ ?_
    rw [liU, if_neg (of_decide_eq_false (bI_0 c4))]
    exact ⟨rfl, rfl, p36R, p36C⟩
  · obtain ⟨g1, ga1, gb1⟩ := hR.2.1
    have h67 := kd5 hk (of_decide_eq_true (bI_1 c4))
    have hj6 : j < σ.2.1 6 := by rcases h67 with e | e <;> subst e <;> omega
    have hj7 : j < (lf1 σ 6 j).2.1 7 := by
      show j < up σ.2.1 6 (σ.2.1 6 - 1) 7
      rw [up_n (by decide +kernel)]
      omega
    refine sw_aload_n (pc' := 8) rfl dX3_liftFrom_7 rfl ?_
    refine sw_getf (ci := 4) (k := 0) (pc' := 11) rfl dX3_liftFrom_8 (by decide +kernel) w_150 hR.1 rfl ?_
    refine sw_bipush (pc' := 13) (v := 6) rfl dX3_liftFrom_11 (by decide +kernel) ?_
    refine sw_aald (pc' := 14) rfl dX3_liftFrom_13 ga1 (by decide +kernel) (by decide +kernel) (j := 6) rfl (by decide +kernel) (by decide +kernel) (gb1 6 (by decide +kernel)) ?_
    refine sw_iload_n (pc' := 15) rfl dX3_liftFrom_14 rfl ?_
    refine sw_V (M' := MX1_lift) (d' := d - 1) (bc' := 0) (bs' := 0) (ci := 2) (as := [_]) dX3_liftFrom_15 w_486 ok_X1_lift (m_lift (j := j) (sh_pred (hR.sh (k := 6) (by decide +kernel)) hj6) (by omega)) (hR.sh (k := 6) (by decide +kernel)).1 rfl (by omega) (Nat.le_of_ble_eq_true rfl) (by omega) (by omega) (fun E h' n' _ z => shp_x z) (shp_k (fun p15 p15S p15F => ?_))
    have p15R : RC p15 (lf1 σ 6 j) := hR.sU (by decide +kernel) p15S p15F
    have p15C : FrC h p15 n := p15F.c (by decide +kernel)
    refine sw_pop (pc' := 19) rfl dX3_liftFrom_18 rfl ?_
    obtain ⟨g2, ga2, gb2⟩ := p15R.2.1
    refine sw_aload_n (pc' := 20) rfl dX3_liftFrom_19 rfl ?_
    refine sw_getf (ci := 4) (k := 0) (pc' := 23) rfl dX3_liftFrom_20 (by decide +kernel) w_150 p15R.1 rfl ?_
    refine sw_bipush (pc' := 25) (v := 7) rfl dX3_liftFrom_23 (by decide +kernel) ?_
    refine sw_aald (pc' := 26) rfl dX3_liftFrom_25 ga2 (by decide +kernel) (by decide +kernel) (j := 7) rfl (by decide +kernel) (by decide +kernel) (gb2 7 (by decide +kernel)) ?_
    refine sw_iload_n (pc' := 27) rfl dX3_liftFrom_26 rfl ?_
    refine sw_V (M' := MX1_lift) (d' := d - 1) (bc' := 0) (bs' := 0) (ci := 2) (as := [_]) dX3_liftFrom_27 w_486 ok_X1_lift (m_lift (j := j) (sh_pred (p15R.sh (k := 7) (by decide +kernel)) hj7) (by omega)) (p15R.sh (k := 7) (by decide +kernel)).1 rfl (by omega) (Nat.le_of_ble_eq_true rfl) (by omega) (by omega) (fun E h' n' _ z => shp_x z) (shp_k (fun p27 p27S p27F => ?_))
    have p27R : RC p27 (lf1 (lf1 σ 6 j) 7 j) := p15R.sU (by decide +kernel) p27S p27F
    have p27C : FrC h p27 n := p15C.tr (p27F.c (by decide +kernel)) (Nat.le_refl _)
    refine sw_pop (pc' := 31) rfl dX3_liftFrom_30 rfl ?_
    refine sw_goto (tgt := 40) dX3_liftFrom_31 (by decide +kernel) ?_
    refine sw_ret (v := none) ⟨dX3_liftFrom_40, rfl⟩ ?_
    rw [liU, if_pos (of_decide_eq_true (bI_1 c4))]
    exact ⟨rfl, rfl, p27R, p27C⟩
theorem m_take {h : AH} {σ : CS} {d bc bs n : Nat} {a x : Int32} (hR : RC h σ) (hd : 6 ≤ d) (hb1 : 20 ≤ bc) (hb2 : 200 ≤ bs) (hT : σ.2.1 6 = σ.2.1 7) : SM SR0 MX3_take d bc bs [.ref 100, .int a, .int x] h n (CP h n (opTake σ a x)) := by
  refine sm_of pn_Overwalks rfl (Nat.le_of_ble_eq_true rfl) ?_
  refine sw_aload_n (pc' := 1) rfl dX3_take_0 rfl ?_
  refine sw_iload_n (pc' := 2) rfl dX3_take_1 rfl ?_
  rcases idxN 11 (by decide +kernel) a with q2 | ⟨k2, hk2, q2⟩
  · refine sw_V (M' := MX3_shelfAt) (d' := d - 1) (bc' := 1) (bs' := 6) (ci := 4) (as := [_]) dX3_take_2 w_402 ok_X3_shelfAt (m_shelfAt_x hR (Nat.le_refl _) (Nat.le_refl _) q2) hR.1 rfl (by omega) (Nat.le_of_ble_eq_true rfl) (by omega) (by omega) (dx_x (swx_out rfl ?_)) (fun v h' n' _ z => dx_k z)
    rw [opTake, onSh_x q2]
    exact ⟨rfl, rfl, hR, FrC.rf⟩
  subst q2
  refine sw_V (M' := MX3_shelfAt) (d' := d - 1) (bc' := 1) (bs' := 6) (ci := 4) (as := [_]) dX3_take_2 w_402 ok_X3_shelfAt (m_shelfAt_k hR (Nat.le_refl _) (Nat.le_refl _) hk2) hR.1 rfl (by omega) (Nat.le_of_ble_eq_true rfl) (by omega) (by omega) (fun E h' n' _ z => det_x z) (det_k ?_)
  refine sw_astore_n (pc' := 6) (lv' := [(3, _), (0, _), (1, _), (2, _)]) rfl dX3_take_5 (by decide +kernel) rfl ?_
  refine sw_iload_n (pc' := 7) rfl dX3_take_6 rfl ?_
  rcases Classical.em (x < 0 ∨ 100 < x) with q7 | q7
  · refine sw_S (M' := MX3_requireThingOrNothing) (d' := d - 1) (bc' := 1) (bs' := 6) (as := [_]) dX3_take_7 w_407 ok_X3_requireThingOrNothing (m_requireThingOrNothing_x (Nat.le_refl _) (Nat.le_refl _) q7) (by omega) (Nat.le_of_ble_eq_true rfl) (by omega) (by omega) (dx_x (swx_out rfl ?_)) (fun v h' n' _ z => dx_k z)
    rw [opTake, onSh_k hk2, if_pos q7]
    exact ⟨rfl, rfl, hR, FrC.rf⟩
  refine sw_S (M' := MX3_requireThingOrNothing) (d' := d - 1) (bc' := 1) (bs' := 6) (as := [_]) dX3_take_7 w_407 ok_X3_requireThingOrNothing (m_requireThingOrNothing_k (Nat.le_refl _) (Nat.le_refl _) q7) (by omega) (Nat.le_of_ble_eq_true rfl) (by omega) (by omega) (fun E h' n' _ z => det_x z) (det_k ?_)
  refine sw_aload_n (pc' := 11) rfl dX3_take_10 rfl ?_
  refine sw_iload_n (pc' := 12) rfl dX3_take_11 rfl ?_
  refine sw_V (M' := MX1_takesIn) (d' := d - 1) (bc' := 0) (bs' := 0) (ci := 2) (as := [_]) dX3_take_12 w_435 ok_X1_takesIn (m_takesIn (hR.sh hk2) (hR.kd kdO_r)) (hR.sh hk2).1 rfl (by omega) (Nat.le_of_ble_eq_true rfl) (by omega) (by omega) (fun E h' n' _ z => det_x z) (det_k ?_)
  refine sw_if_ne (pc' := 18) (tgt := 23) rfl dX3_take_15 (by decide +kernel) (fun c15 => ?_) (fun c15 => ?_)
  · refine sw_aload_n (pc' := 24) rfl dX3_take_23 rfl ?_
    refine sw_iload_n (pc' := 25) rfl dX3_take_24 rfl ?_
    refine sw_V (M' := MX1_firstPlace) (d' := d - 1) (bc' := 0) (bs' := 0) (ci := 2) (as := [_]) dX3_take_25 w_481 ok_X1_firstPlace (m_firstPlace (hR.sh hk2)) (hR.sh hk2).1 rfl (by omega) (Nat.le_of_ble_eq_true rfl) (by omega) (by omega) (fun E h' n' _ z => det_x z) (det_k ?_)
    refine sw_istore (pc' := 30) (lv' := [(4, _), (3, _), (0, _), (1, _), (2, _)]) rfl dX3_take_28 (by decide +kernel) rfl ?_
    refine sw_iload (pc' := 32) rfl dX3_take_30 rfl ?_
    refine sw_iconst (pc' := 33) (v := (-1)) rfl dX3_take_32 (by decide +kernel) ?_
    refine sw_icmp_ne (pc' := 36) (tgt := 38) rfl dX3_take_33 (by decide +kernel) (fun c33 => ?_) (fun c33 => ?_)
    · have e1 : ∃ p, fpN (σ.1 k2) x 0 (σ.2.1 k2) = some p := by
        cases e : fpN (σ.1 k2) x 0 (σ.2.1 k2) with
        | none => rw [e] at c33; exact absurd rfl c33
        | some p => exact ⟨p, rfl⟩
      obtain ⟨p, e1⟩ := e1
      have hp := (fpN_at e1).2.1
      rw [e1]
      refine sw_aload_n (pc' := 39) rfl dX3_take_38 rfl ?_
      refine sw_aload_n (pc' := 40) rfl dX3_take_39 rfl ?_
      refine sw_iload (pc' := 42) rfl dX3_take_40 rfl ?_
      refine sw_V (M' := MX3_liftFrom) (d' := d - 1) (bc' := 0) (bs' := 0) (ci := 4) (as := [_, _]) dX3_take_42 w_482 ok_X3_liftFrom (m_liftFrom hR hk2 (by omega) hT (by omega)) hR.1 rfl (by omega) (Nat.le_of_ble_eq_true rfl) (by omega) (by omega) (fun E h' n' _ z => cp_x z) (cp_k (fun p42 p42R p42F => ?_))
      refine sw_iconst (pc' := 46) (v := 1) rfl dX3_take_45 (by decide +kernel) ?_
      refine sw_ret (v := some _) ⟨dX3_take_46, _, rfl, rfl⟩ ?_
      rw [opTake, onSh_k hk2, if_neg q7, if_neg (fun q : tkB k2 x = false => by unfold tkB at q; rw [q] at c15; exact c15 rfl), e1]
      exact ⟨rfl, rfl, p42R, p42F⟩
    · refine sw_iconst (pc' := 37) (v := 0) rfl dX3_take_36 (by decide +kernel) ?_
      refine sw_ret (v := some _) ⟨dX3_take_37, _, rfl, rfl⟩ ?_
      rw [opTake, onSh_k hk2, if_neg q7, if_neg (fun q : tkB k2 x = false => by unfold tkB at q; rw [q] at c15; exact c15 rfl), opI_n (o := fpN (σ.1 k2) x 0 (σ.2.1 k2)) (fun j e => by have := fpN_at e; have := (hR.sh hk2).2.2.1; omega) c33]
      exact ⟨rfl, rfl, hR, FrC.rf⟩
  · refine sw_aload_n (pc' := 19) rfl dX3_take_18 rfl ?_
    refine sw_V (M' := MX3_refuse) (d' := d - 1) (bc' := 0) (bs' := 0) (ci := 4) (as := []) dX3_take_19 w_439 ok_X3_refuse (m_refuse hR) hR.1 rfl (by omega) (Nat.le_of_ble_eq_true rfl) (by omega) (by omega) (fun E h' n' _ z => cp_x z) (cp_k (fun p19 p19R p19F => ?_))
    refine sw_ret (v := some _) ⟨dX3_take_22, _, rfl, rfl⟩ ?_
    rw [opTake, onSh_k hk2, if_neg q7, if_pos (bI_0 c15 : tkB k2 x = false)]
    exact ⟨rfl, rfl, p19R, p19F⟩
