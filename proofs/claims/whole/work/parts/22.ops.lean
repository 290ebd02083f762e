/-! replace, pour, disjoint, what a WALK's list takes -/
def rpF (f : Nat → Int32) (x y : Int32) (j : Nat) : Nat → Int32 := fun q => if q < j ∧ f q = x then y else f q
theorem rpF_0 {f : Nat → Int32} {x y : Int32} : rpF f x y 0 = f := by
  funext q
  exact if_neg (by omega)
theorem rpF_j {f : Nat → Int32} {x y : Int32} {j : Nat} : rpF f x y j j = f j := if_neg (by omega)
theorem rpF_s {f : Nat → Int32} {x y : Int32} {j : Nat} (e : f j = x) : up (rpF f x y j) j y = rpF f x y (j + 1) := by
  funext q
  by_cases g : q = j
  · subst g
    rw [up_s]
    exact (if_pos ⟨by omega, e⟩).symm
  · rw [up_n g]
    unfold rpF
    by_cases g1 : q < j ∧ f q = x
    · rw [if_pos g1, if_pos ⟨by omega, g1.2⟩]
    · rw [if_neg g1, if_neg (fun z => g1 ⟨by omega, z.2⟩)]
theorem rpF_n {f : Nat → Int32} {x y : Int32} {j : Nat} (e : ¬ f j = x) : rpF f x y j = rpF f x y (j + 1) := by
  funext q
  unfold rpF
  by_cases g1 : q < j ∧ f q = x
  · rw [if_pos g1, if_pos ⟨by omega, g1.2⟩]
  · rw [if_neg g1, if_neg (fun z => g1 ⟨by
      have h1 : q ≠ j := fun e1 => e (e1 ▸ z.2)
      omega, z.2⟩)]
def opReplace (σ : CS) (a x y : Int32) : ARes × CS := onRw a σ (fun k => if x < 0 ∨ 100 < x then (xA, σ) else if y < 0 ∨ 100 < y then (xA, σ) else (rI (bI (false || (fpN (σ.1 k) x 0 (σ.2.1 k)).isSome)), sU σ k (rpF (σ.1 k) x y (σ.2.1 k)) (σ.2.1 k) (σ.2.2.1 k) (σ.2.2.2.1 k + 1)))
/-- it holds NOTHINGS, and the other does not take them -/
def nnB (σ : CS) (k j : Nat) : Bool := (fpN (σ.1 k) 100 0 (σ.2.1 k)).isSome && !tkB j 100
def cpB (σ : CS) (k j : Nat) : Bool := decide (kdO j = 5) || nnB σ k j
/-- what lies on SHELF k from place i on, m things, is PUT on SHELF j -/
def pbM (k j : Nat) : Nat → Nat → Bool → CS → Bool × CS
  | _, 0, w, σ => (w, σ)
  | i, m + 1, w, σ => pbM k j (i + 1) m (w || ldY (σ.1 j) (σ.2.1 j) (kdO j) (taI (σ.1 k) (σ.2.1 k) (nI i))) (ldU σ j (taI (σ.1 k) (σ.2.1 k) (nI i)))
def opPour (σ : CS) (a b : Int32) : ARes × CS := onSh a σ (fun k => onSh b σ (fun j => if 12 < nI (σ.2.1 j) + nI (σ.2.1 k) then (xS, σ) else if cpB σ k j = true then (rI (-9), rfU σ) else (rI (bI (pbM k j 0 (σ.2.1 k) false σ).1), (pbM k j 0 (σ.2.1 k) false σ).2)))
/-- no thing from place i on, m of them, lies on SHELF j -/
def djB (σ : CS) (k j : Nat) : Nat → Nat → Bool
  | _, 0 => true
  | i, m + 1 => !(fpN (σ.1 j) (σ.1 k i) 0 (σ.2.1 j)).isSome && djB σ k j (i + 1) m
def opDisjoint (σ : CS) (a b : Int32) : ARes × CS := onSh a σ (fun k => onSh b σ (fun j => if nnB σ k j = true ∨ nnB σ j k = true then (rI (-9), rfU σ) else (rI (bI (djB σ k j 0 (σ.2.1 k))), σ)))
theorem l_replace {b kd c d bc bs n : Nat} {f : Nat → Int32} {s t a x y : Int32} {h0 : AH} {Post : ARes → AH → Nat → Prop} (hd : 1 ≤ d) (m : Nat) : ∀ (j : Nat) (h : AH) (w : Bool), (∀ h, ShF h b kd (rpF f x y c) c s t → FrS h0 h b → Post (rI (bI (w || (fpN f x j m).isSome))) h n) → j + m = c → ShF h b kd (rpF f x y j) c s t → FrS h0 h b → SW SR0 MX3_replace d bc bs 32 [(6, .int (nI j)), (5, .int (bI w)), (4, .ref b), (0, .ref 100), (1, .int a), (2, .int x), (3, .int y)] [] h n Post := by
  induction m with
  | zero =>
    intro j h w hP hj hS hF
    have hjc : j = c := by omega
    have hc := hS.2.2.1
    subst hjc
    rw [show (fpN f x j 0).isSome = false from rfl, Bool.or_false] at hP
    refine sw_iload (pc' := 34) rfl dX3_replace_32 rfl ?_
    refine sw_aload (pc' := 36) rfl dX3_replace_34 rfl ?_
    refine sw_getf (ci := 2) (k := 2) (pc' := 39) rfl dX3_replace_36 (by decide +kernel) w_84 hS.1 rfl ?_
    refine sw_icmp_ge (pc' := 42) (tgt := 71) rfl dX3_replace_39 (by decide +kernel) (fun c39 => ?_) (fun c39 => ?_)
    · refine sw_iload (pc' := 73) rfl dX3_replace_71 rfl ?_
      refine sw_S (M' := MX3_oneIf) (d' := d - 1) (bc' := 0) (bs' := 0) (as := [_]) dX3_replace_73 w_277 ok_X3_oneIf (m_oneIf) (by omega) (Nat.le_of_ble_eq_true rfl) (Nat.zero_le _) (Nat.zero_le _) (fun E h' n' _ z => det_x z) (det_k ?_)
      refine sw_ret (v := some _) ⟨dX3_replace_76, _, rfl, rfl⟩ ?_
      exact hP h hS hF
    · exact absurd (Int32.le_refl _) c39
  | succ m ih =>
    intro j h w hP hj hS hF
    have hc := hS.2.2.1
    have e1 : taI (rpF f x y j) c (nI j) = f j := (taI_in (by omega) hc).trans rpF_j
    refine sw_iload (pc' := 34) rfl dX3_replace_32 rfl ?_
    refine sw_aload (pc' := 36) rfl dX3_replace_34 rfl ?_
    refine sw_getf (ci := 2) (k := 2) (pc' := 39) rfl dX3_replace_36 (by decide +kernel) w_84 hS.1 rfl ?_
    refine sw_icmp_ge (pc' := 42) (tgt := 71) rfl dX3_replace_39 (by decide +kernel) (fun c39 => ?_) (fun c39 => ?_)
    · exact absurd c39 (nI_ge (by omega) (by omega))
    · refine sw_aload (pc' := 44) rfl dX3_replace_42 rfl ?_
      refine sw_iload (pc' := 46) rfl dX3_replace_44 rfl ?_
      refine sw_V (M' := MX1_thingAt) (d' := d - 1) (bc' := 0) (bs' := 0) (ci := 2) (as := [_]) dX3_replace_46 w_230 ok_X1_thingAt (m_thingAt hS) hS.1 rfl (by omega) (Nat.le_of_ble_eq_true rfl) (Nat.zero_le _) (Nat.zero_le _) (fun E h' n' _ z => det_x z) (det_k ?_)
      refine sw_iload_n (pc' := 50) rfl dX3_replace_49 rfl ?_
      refine sw_icmp_ne (pc' := 53) (tgt := 65) rfl dX3_replace_50 (by decide +kernel) (fun c50 => ?_) (fun c50 => ?_)
      · refine sw_iinc (pc' := 68) (lv' := [(6, _), (5, _), (4, _), (0, _), (1, _), (2, _), (3, _)]) (v := nI (j + 1)) rfl dX3_replace_65 rfl (nI_succ j).symm (by decide +kernel) rfl ?_
        refine sw_goto (tgt := 32) dX3_replace_68 (by decide +kernel) ?_
        rw [e1] at c50
        refine ih (j + 1) h w (fun g gS gF => ?_) (by omega) (rpF_n c50 ▸ hS) hF
        have k9 := hP g gS gF
        rw [fpN, if_neg c50] at k9
        exact k9
      · refine sw_aload (pc' := 55) rfl dX3_replace_53 rfl ?_
        refine sw_iload (pc' := 57) rfl dX3_replace_55 rfl ?_
        refine sw_iload_n (pc' := 58) rfl dX3_replace_57 rfl ?_
        refine sw_V (M' := MX1_exchange) (d' := d - 1) (bc' := 0) (bs' := 0) (ci := 2) (as := [_, _]) dX3_replace_58 w_512 ok_X1_exchange (m_exchange (j := j) hS (by omega)) hS.1 rfl (by omega) (Nat.le_of_ble_eq_true rfl) (Nat.zero_le _) (Nat.zero_le _) (fun E h' n' _ z => shp_x z) (shp_k (fun p pS pF => ?_))
        refine sw_pop (pc' := 62) rfl dX3_replace_61 rfl ?_
        refine sw_iconst (pc' := 63) (v := 1) rfl dX3_replace_62 (by decide +kernel) ?_
        refine sw_istore (pc' := 65) (lv' := [(5, _), (6, _), (4, _), (0, _), (1, _), (2, _), (3, _)]) rfl dX3_replace_63 (by decide +kernel) rfl ?_
        refine sw_iinc (pc' := 68) (lv' := [(6, _), (5, _), (4, _), (0, _), (1, _), (2, _), (3, _)]) (v := nI (j + 1)) rfl dX3_replace_65 rfl (nI_succ j).symm (by decide +kernel) rfl ?_
        refine sw_goto (tgt := 32) dX3_replace_68 (by decide +kernel) ?_
        rw [e1] at c50
        refine ih (j + 1) p true (fun g gS gF => ?_) (by omega) (rpF_s c50 ▸ pS) (hF.tr pF)
        have k9 := hP g gS gF
        rw [fpN, if_pos c50, Option.isSome_some, Bool.or_true] at k9
        rw [Bool.true_or]
        exact k9
theorem m_replace {h : AH} {σ : CS} {d bc bs n : Nat} {a x y : Int32} (hR : RC h σ) (hd : 6 ≤ d) (hb1 : 20 ≤ bc) (hb2 : 200 ≤ bs) : SM SR0 MX3_replace d bc bs [.ref 100, .int a, .int x, .int y] h n (CP h n (opReplace σ a x y)) := by
  refine sm_of pn_Overwalks rfl (Nat.le_of_ble_eq_true rfl) ?_
  refine sw_aload_n (pc' := 1) rfl dX3_replace_0 rfl ?_
  refine sw_iload_n (pc' := 2) rfl dX3_replace_1 rfl ?_
  rcases idxN 11 (by decide +kernel) a with q2 | ⟨k2, hk2, q2⟩
  · refine sw_V (M' := MX3_rowAt) (d' := d - 1) (bc' := 2) (bs' := 12) (ci := 4) (as := [_]) dX3_replace_2 w_541 ok_X3_rowAt (m_rowAt_x hR (Nat.le_refl _) (Nat.le_refl _) (by omega) q2) hR.1 rfl (by omega) (Nat.le_of_ble_eq_true rfl) (by omega) (by omega) (dx_x (swx_out rfl ?_)) (fun v h' n' _ z => dx_k z)
    rw [opReplace, onRw_x q2]
    exact ⟨rfl, rfl, hR, FrC.rf⟩
  subst q2
  rcases Classical.em (kP (kdO k2) = false) with q2 | q2
  · refine sw_V (M' := MX3_rowAt) (d' := d - 1) (bc' := 2) (bs' := 12) (ci := 4) (as := [_]) dX3_replace_2 w_541 ok_X3_rowAt (m_rowAt_y hR (Nat.le_refl _) (Nat.le_refl _) (by omega) hk2 q2) hR.1 rfl (by omega) (Nat.le_of_ble_eq_true rfl) (by omega) (by omega) (dx_x (swx_out rfl ?_)) (fun v h' n' _ z => dx_k z)
    rw [opReplace, onRw_y hk2 q2]
    exact ⟨rfl, rfl, hR, FrC.rf⟩
  refine sw_V (M' := MX3_rowAt) (d' := d - 1) (bc' := 2) (bs' := 12) (ci := 4) (as := [_]) dX3_replace_2 w_541 ok_X3_rowAt (m_rowAt_k hR (Nat.le_refl _) (Nat.le_refl _) (by omega) hk2 q2) hR.1 rfl (by omega) (Nat.le_of_ble_eq_true rfl) (by omega) (by omega) (fun E h' n' _ z => det_x z) (det_k ?_)
  refine sw_astore (pc' := 7) (lv' := [(4, _), (0, _), (1, _), (2, _), (3, _)]) rfl dX3_replace_5 (by decide +kernel) rfl ?_
  refine sw_iload_n (pc' := 8) rfl dX3_replace_7 rfl ?_
  rcases Classical.em (x < 0 ∨ 100 < x) with q8 | q8
  · refine sw_S (M' := MX3_requireThingOrNothing) (d' := d - 1) (bc' := 1) (bs' := 6) (as := [_]) dX3_replace_8 w_407 ok_X3_requireThingOrNothing (m_requireThingOrNothing_x (Nat.le_refl _) (Nat.le_refl _) q8) (by omega) (Nat.le_of_ble_eq_true rfl) (by omega) (by omega) (dx_x (swx_out rfl ?_)) (fun v h' n' _ z => dx_k z)
    rw [opReplace, onRw_k hk2 q2, if_pos q8]
    exact ⟨rfl, rfl, hR, FrC.rf⟩
  refine sw_S (M' := MX3_requireThingOrNothing) (d' := d - 1) (bc' := 1) (bs' := 6) (as := [_]) dX3_replace_8 w_407 ok_X3_requireThingOrNothing (m_requireThingOrNothing_k (Nat.le_refl _) (Nat.le_refl _) q8) (by omega) (Nat.le_of_ble_eq_true rfl) (by omega) (by omega) (fun E h' n' _ z => det_x z) (det_k ?_)
  refine sw_iload_n (pc' := 12) rfl dX3_replace_11 rfl ?_
  rcases Classical.em (y < 0 ∨ 100 < y) with q12 | q12
  · refine sw_S (M' := MX3_requireThingOrNothing) (d' := d - 1) (bc' := 1) (bs' := 6) (as := [_]) dX3_replace_12 w_407 ok_X3_requireThingOrNothing (m_requireThingOrNothing_x (Nat.le_refl _) (Nat.le_refl _) q12) (by omega) (Nat.le_of_ble_eq_true rfl) (by omega) (by omega) (dx_x (swx_out rfl ?_)) (fun v h' n' _ z => dx_k z)
    rw [opReplace, onRw_k hk2 q2, if_neg q8, if_pos q12]
    exact ⟨rfl, rfl, hR, FrC.rf⟩
  refine sw_S (M' := MX3_requireThingOrNothing) (d' := d - 1) (bc' := 1) (bs' := 6) (as := [_]) dX3_replace_12 w_407 ok_X3_requireThingOrNothing (m_requireThingOrNothing_k (Nat.le_refl _) (Nat.le_refl _) q12) (by omega) (Nat.le_of_ble_eq_true rfl) (by omega) (by omega) (fun E h' n' _ z => det_x z) (det_k ?_)
  refine sw_aload (pc' := 17) rfl dX3_replace_15 rfl ?_
  refine sw_dup (pc' := 18) rfl dX3_replace_17 rfl ?_
  refine sw_getf (ci := 2) (k := 4) (pc' := 21) rfl dX3_replace_18 (by decide +kernel) w_89 (hR.sh hk2).1 rfl ?_
  refine sw_iconst (pc' := 22) (v := 1) rfl dX3_replace_21 (by decide +kernel) ?_
  refine sw_iadd (pc' := 23) rfl dX3_replace_22 ?_
  refine sw_putf (ci := 2) (k := 4) (pc' := 26) rfl dX3_replace_23 (by decide +kernel) (by decide +kernel) w_89 rfl (hR.sh hk2).1 (hR.sh hk2).2.2.2 (Nat.le_of_ble_eq_true rfl) rfl rfl ?_
  refine sw_nm (fun g1 eg1 => ?_)
  have zk2 := (congrFun eg1 _).trans (up_s (h := h) (i := (102 + 2 * k2)))
  have zk3 := ((congrFun eg1 100).trans (up_n (h := h) (by omega))).trans hR.1
  have zk4 := ((congrFun eg1 ((102 + 2 * k2) + 1)).trans (up_n (h := h) (by omega))).trans (hR.sh hk2).2.1
  refine sw_iconst (pc' := 27) (v := 0) rfl dX3_replace_26 (by decide +kernel) ?_
  refine sw_istore (pc' := 29) (lv' := [(5, _), (4, _), (0, _), (1, _), (2, _), (3, _)]) rfl dX3_replace_27 (by decide +kernel) rfl ?_
  refine sw_iconst (pc' := 30) (v := 0) rfl dX3_replace_29 (by decide +kernel) ?_
  refine sw_istore (pc' := 32) (lv' := [(6, _), (5, _), (4, _), (0, _), (1, _), (2, _), (3, _)]) rfl dX3_replace_30 (by decide +kernel) rfl ?_
  rw [opReplace, onRw_k hk2 q2, if_neg q8, if_neg q12]
  exact l_replace (h0 := h) (kd := kdO k2) (f := σ.1 k2) (c := σ.2.1 k2) (s := σ.2.2.1 k2) (t := σ.2.2.2.1 k2 + 1) (by omega) (σ.2.1 k2) 0 g1 false (fun g gS gF => ⟨rfl, rfl, hR.sU hk2 gS gF, gF.c hk2⟩) (by omega) ⟨zk2, by rw [rpF_0]; exact zk4, (hR.sh hk2).2.2⟩ (fun i h1 h2 => (congrFun eg1 i).trans ((up_n h1).trans (rfl)))
theorem m_hasNothingsThatAreNotTaken {h : AH} {b b2 kd kd2 c c2 d bc bs n : Nat} {f g : Nat → Int32} {s t s2 t2 : Int32} (hS : ShF h b kd f c s t) (gS : ShF h b2 kd2 g c2 s2 t2) (hK : KdF h kd2) (hd : 2 ≤ d) : SM SR0 MX3_hasNothingsThatAreNotTaken d bc bs [.ref b, .ref b2] h n (Det (rI (bI ((fpN f 100 0 c).isSome && !(decide ((100 : Int32) ≠ 100) || kN kd2)))) h n) := by
  refine sm_of pn_Overwalks rfl (Nat.le_of_ble_eq_true rfl) ?_
  refine sw_aload_n (pc' := 1) rfl dX3_hasNothingsThatAreNotTaken_0 rfl ?_
  refine sw_bipush (pc' := 3) (v := 100) rfl dX3_hasNothingsThatAreNotTaken_1 (by decide +kernel) ?_
  refine sw_V (M' := MX1_holds) (d' := d - 1) (bc' := 0) (bs' := 0) (ci := 2) (as := [_]) dX3_hasNothingsThatAreNotTaken_3 w_530 ok_X1_holds (m_holds hS (by omega)) hS.1 rfl (by omega) (Nat.le_of_ble_eq_true rfl) (Nat.zero_le _) (Nat.zero_le _) (fun E h' n' _ z => det_x z) (det_k ?_)
  refine sw_if_eq (pc' := 9) (tgt := 22) rfl dX3_hasNothingsThatAreNotTaken_6 (by decide +kernel) (fun c6 => ?_) (fun c6 => ?_)
  · refine sw_iconst (pc' := 23) (v := 0) rfl dX3_hasNothingsThatAreNotTaken_22 (by decide +kernel) ?_
    refine sw_ret (v := some _) ⟨dX3_hasNothingsThatAreNotTaken_23, _, rfl, rfl⟩ ?_
    exact ⟨by rw [bI_0 c6]; rfl, rfl, rfl⟩
  · refine sw_aload_n (pc' := 10) rfl dX3_hasNothingsThatAreNotTaken_9 rfl ?_
    refine sw_bipush (pc' := 12) (v := 100) rfl dX3_hasNothingsThatAreNotTaken_10 (by decide +kernel) ?_
    refine sw_V (M' := MX1_takesIn) (d' := d - 1) (bc' := 0) (bs' := 0) (ci := 2) (as := [_]) dX3_hasNothingsThatAreNotTaken_12 w_435 ok_X1_takesIn (m_takesIn gS hK) gS.1 rfl (by omega) (Nat.le_of_ble_eq_true rfl) (Nat.zero_le _) (Nat.zero_le _) (fun E h' n' _ z => det_x z) (det_k ?_)
    refine sw_if_ne (pc' := 18) (tgt := 22) rfl dX3_hasNothingsThatAreNotTaken_15 (by decide +kernel) (fun c15 => ?_) (fun c15 => ?_)
    · refine sw_iconst (pc' := 23) (v := 0) rfl dX3_hasNothingsThatAreNotTaken_22 (by decide +kernel) ?_
      refine sw_ret (v := some _) ⟨dX3_hasNothingsThatAreNotTaken_23, _, rfl, rfl⟩ ?_
      exact ⟨by rw [bI_1 c15, Bool.not_true, Bool.and_false]; rfl, rfl, rfl⟩
    · refine sw_iconst (pc' := 19) (v := 1) rfl dX3_hasNothingsThatAreNotTaken_18 (by decide +kernel) ?_
      refine sw_goto (tgt := 23) dX3_hasNothingsThatAreNotTaken_19 (by decide +kernel) ?_
      refine sw_ret (v := some _) ⟨dX3_hasNothingsThatAreNotTaken_23, _, rfl, rfl⟩ ?_
      exact ⟨by rw [bI_1 c6, bI_0 c15]; rfl, rfl, rfl⟩
theorem m_cannotPour {h : AH} {b b2 kd kd2 c c2 d bc bs n : Nat} {f g : Nat → Int32} {s t s2 t2 : Int32} (hS : ShF h b kd f c s t) (gS : ShF h b2 kd2 g c2 s2 t2) (hK : KdF h kd2) (hd : 3 ≤ d) : SM SR0 MX3_cannotPour d bc bs [.ref b, .ref b2] h n (Det (rI (bI (decide (kd2 = 5) || ((fpN f 100 0 c).isSome && !(decide ((100 : Int32) ≠ 100) || kN kd2))))) h n) := by
  refine sm_of pn_Overwalks rfl (Nat.le_of_ble_eq_true rfl) ?_
  refine sw_aload_n (pc' := 1) rfl dX3_cannotPour_0 rfl ?_
  refine sw_V (M' := MX1_isOfTable) (d' := d - 1) (bc' := 0) (bs' := 0) (ci := 2) (as := []) dX3_cannotPour_1 w_430 ok_X1_isOfTable (m_isOfTable gS hK.1) gS.1 rfl (by omega) (Nat.le_of_ble_eq_true rfl) (Nat.zero_le _) (Nat.zero_le _) (fun E h' n' _ z => det_x z) (det_k ?_)
  refine sw_if_ne (pc' := 7) (tgt := 15) rfl dX3_cannotPour_4 (by decide +kernel) (fun c4 => ?_) (fun c4 => ?_)
  · refine sw_iconst (pc' := 16) (v := 1) rfl dX3_cannotPour_15 (by decide +kernel) ?_
    refine sw_goto (tgt := 20) dX3_cannotPour_16 (by decide +kernel) ?_
    refine sw_ret (v := some _) ⟨dX3_cannotPour_20, _, rfl, rfl⟩ ?_
    exact ⟨by rw [bI_1 c4, Bool.true_or]; rfl, rfl, rfl⟩
  · refine sw_aload_n (pc' := 8) rfl dX3_cannotPour_7 rfl ?_
    refine sw_aload_n (pc' := 9) rfl dX3_cannotPour_8 rfl ?_
    refine sw_S (M' := MX3_hasNothingsThatAreNotTaken) (d' := d - 1) (bc' := 0) (bs' := 0) (as := [_, _]) dX3_cannotPour_9 w_527 ok_X3_hasNothingsThatAreNotTaken (m_hasNothingsThatAreNotTaken hS gS hK (by omega)) (by omega) (Nat.le_of_ble_eq_true rfl) (Nat.zero_le _) (Nat.zero_le _) (fun E h' n' _ z => det_x z) (det_k ?_)
    refine sw_if_eq (pc' := 15) (tgt := 19) rfl dX3_cannotPour_12 (by decide +kernel) (fun c12 => ?_) (fun c12 => ?_)
    · refine sw_iconst (pc' := 20) (v := 0) rfl dX3_cannotPour_19 (by decide +kernel) ?_
      refine sw_ret (v := some _) ⟨dX3_cannotPour_20, _, rfl, rfl⟩ ?_
      exact ⟨by rw [bI_0 c12, Bool.or_false, bI_0 c4]; rfl, rfl, rfl⟩
    · refine sw_iconst (pc' := 16) (v := 1) rfl dX3_cannotPour_15 (by decide +kernel) ?_
      refine sw_goto (tgt := 20) dX3_cannotPour_16 (by decide +kernel) ?_
      refine sw_ret (v := some _) ⟨dX3_cannotPour_20, _, rfl, rfl⟩ ?_
      exact ⟨by rw [bI_1 c12, Bool.or_true]; rfl, rfl, rfl⟩
theorem l_pourBehind {d bc bs n k j : Nat} {z : Int32} {h0 : AH} (hk : k < 11) (hj : j < 11) (hd : 3 ≤ d) (m : Nat) : ∀ (i : Nat) (h : AH) (w : Bool) (σ : CS), i + m ≤ 12 → σ.2.1 j + m ≤ 12 → RC h σ → FrC h0 h n → SW SR0 MX3_pourBehind d bc bs 11 [(5, .int (nI i)), (4, .int (bI w)), (3, .int (nI (i + m))), (0, .ref (102 + 2 * k)), (1, .int z), (2, .ref (102 + 2 * j))] [] h n (CP h0 n (rI (bI (pbM k j i m w σ).1), (pbM k j i m w σ).2)) := by
  induction m with
  | zero =>
    intro i h w σ hi hm hR hF
    refine sw_iload (pc' := 13) rfl dX3_pourBehind_11 rfl ?_
    refine sw_iload_n (pc' := 14) rfl dX3_pourBehind_13 rfl ?_
    refine sw_icmp_ge (pc' := 17) (tgt := 39) rfl dX3_pourBehind_14 (by decide +kernel) (fun c14 => ?_) (fun c14 => ?_)
    · refine sw_iload (pc' := 41) rfl dX3_pourBehind_39 rfl ?_
      refine sw_ret (v := some _) ⟨dX3_pourBehind_41, _, rfl, bI_i⟩ ?_
      exact ⟨rfl, rfl, hR, hF⟩
    · exact absurd (Int32.le_refl _) c14
  | succ m ih =>
    intro i h w σ hi hm hR hF
    refine sw_iload (pc' := 13) rfl dX3_pourBehind_11 rfl ?_
    refine sw_iload_n (pc' := 14) rfl dX3_pourBehind_13 rfl ?_
    refine sw_icmp_ge (pc' := 17) (tgt := 39) rfl dX3_pourBehind_14 (by decide +kernel) (fun c14 => ?_) (fun c14 => ?_)
    · exact absurd c14 (nI_ge (by omega) (by omega))
    · refine sw_aload_n (pc' := 18) rfl dX3_pourBehind_17 rfl ?_
      refine sw_aload_n (pc' := 19) rfl dX3_pourBehind_18 rfl ?_
      refine sw_iload (pc' := 21) rfl dX3_pourBehind_19 rfl ?_
      refine sw_V (M' := MX1_thingAt) (d' := d - 1) (bc' := 0) (bs' := 0) (ci := 2) (as := [_]) dX3_pourBehind_21 w_230 ok_X1_thingAt (m_thingAt (hR.sh hk)) (hR.sh hk).1 rfl (by omega) (Nat.le_of_ble_eq_true rfl) (Nat.zero_le _) (Nat.zero_le _) (fun E h' n' _ z => det_x z) (det_k ?_)
      refine sw_V (M' := MX1_layDown) (d' := d - 1) (bc' := 0) (bs' := 0) (ci := 2) (as := [_]) dX3_pourBehind_24 w_443 ok_X1_layDown (m_layDown (hR.sh hj) (hR.kd kdO_r) (by omega) (by omega)) (hR.sh hj).1 rfl (by omega) (Nat.le_of_ble_eq_true rfl) (Nat.zero_le _) (Nat.zero_le _) (fun E h' n' _ z => shp_x z) (shp_k (fun p pS pF => ?_))
      refine sw_if_eq (pc' := 30) (tgt := 33) rfl dX3_pourBehind_27 (by decide +kernel) (fun c27 => ?_) (fun c27 => ?_)
      · refine sw_iinc (pc' := 36) (lv' := [(5, _), (4, _), (3, _), (0, _), (1, _), (2, _)]) (v := nI (i + 1)) rfl dX3_pourBehind_33 rfl (nI_succ i).symm (by decide +kernel) rfl ?_
        refine sw_goto (tgt := 11) dX3_pourBehind_36 (by decide +kernel) ?_
        have hu := ldU_c (σ := σ) (k := j) (x := (taI (σ.1 k) (σ.2.1 k) (nI i)))
        have g := ih (i + 1) p (w || ldY (σ.1 j) (σ.2.1 j) (kdO j) (taI (σ.1 k) (σ.2.1 k) (nI i))) (ldU σ j (taI (σ.1 k) (σ.2.1 k) (nI i))) (by omega) (by omega) (hR.ldS hj pS pF) (hF.tr (pF.c hj) (Nat.le_refl _))
        rw [show i + 1 + m = i + (m + 1) by omega] at g
        rw [pbM]
        rw [bI_0 c27, Bool.or_false] at g
        rw [bI_0 c27, Bool.or_false]
        exact g
      · refine sw_iconst (pc' := 31) (v := 1) rfl dX3_pourBehind_30 (by decide +kernel) ?_
        refine sw_istore (pc' := 33) (lv' := [(4, _), (5, _), (3, _), (0, _), (1, _), (2, _)]) rfl dX3_pourBehind_31 (by decide +kernel) rfl ?_
        refine sw_iinc (pc' := 36) (lv' := [(5, _), (4, _), (3, _), (0, _), (1, _), (2, _)]) (v := nI (i + 1)) rfl dX3_pourBehind_33 rfl (nI_succ i).symm (by decide +kernel) rfl ?_
        refine sw_goto (tgt := 11) dX3_pourBehind_36 (by decide +kernel) ?_
        have hu := ldU_c (σ := σ) (k := j) (x := (taI (σ.1 k) (σ.2.1 k) (nI i)))
        have g := ih (i + 1) p (w || ldY (σ.1 j) (σ.2.1 j) (kdO j) (taI (σ.1 k) (σ.2.1 k) (nI i))) (ldU σ j (taI (σ.1 k) (σ.2.1 k) (nI i))) (by omega) (by omega) (hR.ldS hj pS pF) (hF.tr (pF.c hj) (Nat.le_refl _))
        rw [show i + 1 + m = i + (m + 1) by omega] at g
        rw [pbM]
        rw [bI_1 c27, Bool.or_true] at g
        rw [bI_1 c27, Bool.or_true]
        exact g
theorem m_pourBehind {h : AH} {σ : CS} {d bc bs n k j i : Nat} (hR : RC h σ) (hk : k < 11) (hj : j < 11) (hi : i ≤ σ.2.1 k) (hr : σ.2.1 j + (σ.2.1 k - i) ≤ 12) (hd : 3 ≤ d) : SM SR0 MX3_pourBehind d bc bs [.ref (102 + 2 * k), .int (nI i), .ref (102 + 2 * j)] h n (CP h n (rI (bI (pbM k j i (σ.2.1 k - i) false σ).1), (pbM k j i (σ.2.1 k - i) false σ).2)) := by
  have hc := (hR.sh hk).2.2.1
  refine sm_of pn_Overwalks rfl (Nat.le_of_ble_eq_true rfl) ?_
  refine sw_aload_n (pc' := 1) rfl dX3_pourBehind_0 rfl ?_
  refine sw_getf (ci := 2) (k := 2) (pc' := 4) rfl dX3_pourBehind_1 (by decide +kernel) w_84 (hR.sh hk).1 rfl ?_
  refine sw_istore_n (pc' := 5) (lv' := [(3, _), (0, _), (1, _), (2, _)]) rfl dX3_pourBehind_4 (by decide +kernel) rfl ?_
  refine sw_iconst (pc' := 6) (v := 0) rfl dX3_pourBehind_5 (by decide +kernel) ?_
  refine sw_istore (pc' := 8) (lv' := [(4, _), (3, _), (0, _), (1, _), (2, _)]) rfl dX3_pourBehind_6 (by decide +kernel) rfl ?_
  refine sw_iload_n (pc' := 9) rfl dX3_pourBehind_8 rfl ?_
  refine sw_istore (pc' := 11) (lv' := [(5, _), (4, _), (3, _), (0, _), (1, _), (2, _)]) rfl dX3_pourBehind_9 (by decide +kernel) rfl ?_
  have g := l_pourBehind (d := d) (bc := bc) (bs := bs) (n := n) (z := nI i) (h0 := h) hk hj hd (σ.2.1 k - i) i h false σ (by omega) hr hR FrC.rf
  rw [Nat.add_sub_cancel' hi] at g
  exact g
theorem m_pour {h : AH} {σ : CS} {d bc bs n : Nat} {a b : Int32} (hR : RC h σ) (hd : 6 ≤ d) (hb1 : 20 ≤ bc) (hb2 : 200 ≤ bs) : SM SR0 MX3_pour d bc bs [.ref 100, .int a, .int b] h n (CP h n (opPour σ a b)) := by
  refine sm_of pn_Overwalks rfl (Nat.le_of_ble_eq_true rfl) ?_
  refine sw_aload_n (pc' := 1) rfl dX3_pour_0 rfl ?_
  refine sw_iload_n (pc' := 2) rfl dX3_pour_1 rfl ?_
  rcases idxN 11 (by decide +kernel) a with q2 | ⟨k2, hk2, q2⟩
  · refine sw_V (M' := MX3_shelfAt) (d' := d - 1) (bc' := 1) (bs' := 6) (ci := 4) (as := [_]) dX3_pour_2 w_402 ok_X3_shelfAt (m_shelfAt_x hR (Nat.le_refl _) (Nat.le_refl _) q2) hR.1 rfl (by omega) (Nat.le_of_ble_eq_true rfl) (by omega) (by omega) (dx_x (swx_out rfl ?_)) (fun v h' n' _ z => dx_k z)
    rw [opPour, onSh_x q2]
    exact ⟨rfl, rfl, hR, FrC.rf⟩
  subst q2
  refine sw_V (M' := MX3_shelfAt) (d' := d - 1) (bc' := 1) (bs' := 6) (ci := 4) (as := [_]) dX3_pour_2 w_402 ok_X3_shelfAt (m_shelfAt_k hR (Nat.le_refl _) (Nat.le_refl _) hk2) hR.1 rfl (by omega) (Nat.le_of_ble_eq_true rfl) (by omega) (by omega) (fun E h' n' _ z => det_x z) (det_k ?_)
  refine sw_astore_n (pc' := 6) (lv' := [(3, _), (0, _), (1, _), (2, _)]) rfl dX3_pour_5 (by decide +kernel) rfl ?_
  refine sw_aload_n (pc' := 7) rfl dX3_pour_6 rfl ?_
  refine sw_iload_n (pc' := 8) rfl dX3_pour_7 rfl ?_
  rcases idxN 11 (by decide +kernel) b with q8 | ⟨k8, hk8, q8⟩
  · refine sw_V (M' := MX3_shelfAt) (d' := d - 1) (bc' := 1) (bs' := 6) (ci := 4) (as := [_]) dX3_pour_8 w_402 ok_X3_shelfAt (m_shelfAt_x hR (Nat.le_refl _) (Nat.le_refl _) q8) hR.1 rfl (by omega) (Nat.le_of_ble_eq_true rfl) (by omega) (by omega) (dx_x (swx_out rfl ?_)) (fun v h' n' _ z => dx_k z)
    rw [opPour, onSh_k hk2, onSh_x q8]
    exact ⟨rfl, rfl, hR, FrC.rf⟩
  subst q8
  refine sw_V (M' := MX3_shelfAt) (d' := d - 1) (bc' := 1) (bs' := 6) (ci := 4) (as := [_]) dX3_pour_8 w_402 ok_X3_shelfAt (m_shelfAt_k hR (Nat.le_refl _) (Nat.le_refl _) hk8) hR.1 rfl (by omega) (Nat.le_of_ble_eq_true rfl) (by omega) (by omega) (fun E h' n' _ z => det_x z) (det_k ?_)
  refine sw_astore (pc' := 13) (lv' := [(4, _), (3, _), (0, _), (1, _), (2, _)]) rfl dX3_pour_11 (by decide +kernel) rfl ?_
  refine sw_aload (pc' := 15) rfl dX3_pour_13 rfl ?_
  refine sw_aload_n (pc' := 16) rfl dX3_pour_15 rfl ?_
  refine sw_getf (ci := 2) (k := 2) (pc' := 19) rfl dX3_pour_16 (by decide +kernel) w_84 (hR.sh hk2).1 rfl ?_
  rcases Classical.em (12 < nI (σ.2.1 k8) + nI (σ.2.1 k2)) with q19 | q19
  · refine sw_S (M' := MX3_requireRoom) (d' := d - 1) (bc' := 1) (bs' := 6) (as := [_, _]) dX3_pour_19 w_411 ok_X3_requireRoom (m_requireRoom_x (hR.sh hk8) (Nat.le_refl _) (Nat.le_refl _) q19) (by omega) (Nat.le_of_ble_eq_true rfl) (by omega) (by omega) (dx_x (swx_out rfl ?_)) (fun v h' n' _ z => dx_k z)
    rw [opPour, onSh_k hk2, onSh_k hk8, if_pos q19]
    exact ⟨rfl, rfl, hR, FrC.rf⟩
  refine sw_S (M' := MX3_requireRoom) (d' := d - 1) (bc' := 1) (bs' := 6) (as := [_, _]) dX3_pour_19 w_411 ok_X3_requireRoom (m_requireRoom_k (hR.sh hk8) (Nat.le_refl _) (Nat.le_refl _) q19) (by omega) (Nat.le_of_ble_eq_true rfl) (by omega) (by omega) (fun E h' n' _ z => det_x z) (det_k ?_)
  refine sw_aload_n (pc' := 23) rfl dX3_pour_22 rfl ?_
  refine sw_aload (pc' := 25) rfl dX3_pour_23 rfl ?_
  refine sw_S (M' := MX3_cannotPour) (d' := d - 1) (bc' := 0) (bs' := 0) (as := [_, _]) dX3_pour_25 w_524 ok_X3_cannotPour (m_cannotPour (hR.sh hk2) (hR.sh hk8) (hR.kd kdO_r) (by omega)) (by omega) (Nat.le_of_ble_eq_true rfl) (Nat.zero_le _) (Nat.zero_le _) (fun E h' n' _ z => det_x z) (det_k ?_)
  refine sw_if_eq (pc' := 31) (tgt := 36) rfl dX3_pour_28 (by decide +kernel) (fun c28 => ?_) (fun c28 => ?_)
  · have hc2 := (hR.sh hk2).2.2.1
    have hrm := nI_room (hR.sh hk8).2.2.1 hc2 q19
    refine sw_aload_n (pc' := 37) rfl dX3_pour_36 rfl ?_
    refine sw_iconst (pc' := 38) (v := 0) rfl dX3_pour_37 (by decide +kernel) ?_
    refine sw_aload (pc' := 40) rfl dX3_pour_38 rfl ?_
    refine sw_S (M' := MX3_pourBehind) (d' := d - 1) (bc' := 0) (bs' := 0) (as := [_, _, _]) dX3_pour_40 w_531 ok_X3_pourBehind (m_pourBehind (i := 0) hR hk2 hk8 (Nat.zero_le _) hrm (by omega)) (by omega) (Nat.le_of_ble_eq_true rfl) (Nat.zero_le _) (Nat.zero_le _) (fun E h' n' _ z => cp_x z) (cp_k (fun p pR pF => ?_))
    refine sw_S (M' := MX3_oneIf) (d' := d - 1) (bc' := 0) (bs' := 0) (as := [_]) dX3_pour_43 w_277 ok_X3_oneIf (m_oneIf) (by omega) (Nat.le_of_ble_eq_true rfl) (by omega) (by omega) (fun E h' n' _ z => det_x z) (det_k ?_)
    refine sw_ret (v := some _) ⟨dX3_pour_46, _, rfl, rfl⟩ ?_
    rw [opPour, onSh_k hk2, onSh_k hk8, if_neg q19, if_neg (show ¬ cpB σ k2 k8 = true from by rw [show cpB σ k2 k8 = false from bI_0 c28]; decide)]
    exact ⟨rfl, rfl, pR, pF⟩
  · refine sw_aload_n (pc' := 32) rfl dX3_pour_31 rfl ?_
    refine sw_V (M' := MX3_refuse) (d' := d - 1) (bc' := 0) (bs' := 0) (ci := 4) (as := []) dX3_pour_32 w_439 ok_X3_refuse (m_refuse hR) hR.1 rfl (by omega) (Nat.le_of_ble_eq_true rfl) (by omega) (by omega) (fun E h' n' _ z => cp_x z) (cp_k (fun p32 p32R p32F => ?_))
    refine sw_ret (v := some _) ⟨dX3_pour_35, _, rfl, rfl⟩ ?_
    rw [opPour, onSh_k hk2, onSh_k hk8, if_neg q19, if_pos (show cpB σ k2 k8 = true from bI_1 c28)]
    exact ⟨rfl, rfl, p32R, p32F⟩
theorem l_disjoint {h : AH} {σ : CS} {d bc bs n k j : Nat} {a b : Int32} (hR : RC h σ) (hk : k < 11) (hj : j < 11) (hd : 2 ≤ d) (m : Nat) : ∀ (i : Nat), i + m = σ.2.1 k → SW SR0 MX3_disjoint d bc bs 39 [(5, .int (nI i)), (4, .ref (102 + 2 * j)), (3, .ref (102 + 2 * k)), (0, .ref 100), (1, .int a), (2, .int b)] [] h n (CP h n (rI (bI (djB σ k j i m)), σ)) := by
  have hc := (hR.sh hk).2.2.1
  induction m with
  | zero =>
    intro i hi
    have hic : σ.2.1 k = i := by omega
    refine sw_iload (pc' := 41) rfl dX3_disjoint_39 rfl ?_
    refine sw_aload_n (pc' := 42) rfl dX3_disjoint_41 rfl ?_
    refine sw_getf (ci := 2) (k := 2) (pc' := 45) rfl dX3_disjoint_42 (by decide +kernel) w_84 (hR.sh hk).1 rfl ?_
    refine sw_icmp_ge (pc' := 48) (tgt := 70) rfl dX3_disjoint_45 (by decide +kernel) (fun c45 => ?_) (fun c45 => ?_)
    · refine sw_iconst (pc' := 71) (v := 1) rfl dX3_disjoint_70 (by decide +kernel) ?_
      refine sw_ret (v := some _) ⟨dX3_disjoint_71, _, rfl, rfl⟩ ?_
      exact ⟨rfl, rfl, hR, FrC.rf⟩
    · exact absurd (by rw [hic]; exact Int32.le_refl _) c45
  | succ m ih =>
    intro i hi
    have e1 := taI_in (f := σ.1 k) (c := σ.2.1 k) (j := i) (by omega) hc
    refine sw_iload (pc' := 41) rfl dX3_disjoint_39 rfl ?_
    refine sw_aload_n (pc' := 42) rfl dX3_disjoint_41 rfl ?_
    refine sw_getf (ci := 2) (k := 2) (pc' := 45) rfl dX3_disjoint_42 (by decide +kernel) w_84 (hR.sh hk).1 rfl ?_
    refine sw_icmp_ge (pc' := 48) (tgt := 70) rfl dX3_disjoint_45 (by decide +kernel) (fun c45 => ?_) (fun c45 => ?_)
    · exact absurd c45 (nI_ge (by omega) (by omega))
    · refine sw_aload (pc' := 50) rfl dX3_disjoint_48 rfl ?_
      refine sw_aload_n (pc' := 51) rfl dX3_disjoint_50 rfl ?_
      refine sw_iload (pc' := 53) rfl dX3_disjoint_51 rfl ?_
      refine sw_V (M' := MX1_thingAt) (d' := d - 1) (bc' := 0) (bs' := 0) (ci := 2) (as := [_]) dX3_disjoint_53 w_230 ok_X1_thingAt (m_thingAt (hR.sh hk)) (hR.sh hk).1 rfl (by omega) (Nat.le_of_ble_eq_true rfl) (Nat.zero_le _) (Nat.zero_le _) (fun E h' n' _ z => det_x z) (det_k ?_)
      refine sw_V (M' := MX1_holds) (d' := d - 1) (bc' := 0) (bs' := 0) (ci := 2) (as := [_]) dX3_disjoint_56 w_530 ok_X1_holds (m_holds (hR.sh hj) (by omega)) (hR.sh hj).1 rfl (by omega) (Nat.le_of_ble_eq_true rfl) (Nat.zero_le _) (Nat.zero_le _) (fun E h' n' _ z => det_x z) (det_k ?_)
      refine sw_if_eq (pc' := 62) (tgt := 64) rfl dX3_disjoint_59 (by decide +kernel) (fun c59 => ?_) (fun c59 => ?_)
      · refine sw_iinc (pc' := 67) (lv' := [(5, _), (4, _), (3, _), (0, _), (1, _), (2, _)]) (v := nI (i + 1)) rfl dX3_disjoint_64 rfl (nI_succ i).symm (by decide +kernel) rfl ?_
        refine sw_goto (tgt := 39) dX3_disjoint_67 (by decide +kernel) ?_
        rw [e1] at c59
        rw [djB, bI_0 c59, Bool.not_false, Bool.true_and]
        exact ih (i + 1) (by omega)
      · refine sw_iconst (pc' := 63) (v := 0) rfl dX3_disjoint_62 (by decide +kernel) ?_
        refine sw_ret (v := some _) ⟨dX3_disjoint_63, _, rfl, rfl⟩ ?_
        rw [e1] at c59
        rw [djB, bI_1 c59]
        exact ⟨rfl, rfl, hR, FrC.rf⟩
theorem m_disjoint {h : AH} {σ : CS} {d bc bs n : Nat} {a b : Int32} (hR : RC h σ) (hd : 6 ≤ d) (hb1 : 20 ≤ bc) (hb2 : 200 ≤ bs) : SM SR0 MX3_disjoint d bc bs [.ref 100, .int a, .int b] h n (CP h n (opDisjoint σ a b)) := by
  refine sm_of pn_Overwalks rfl (Nat.le_of_ble_eq_true rfl) ?_
  refine sw_aload_n (pc' := 1) rfl dX3_disjoint_0 rfl ?_
  refine sw_iload_n (pc' := 2) rfl dX3_disjoint_1 rfl ?_
  rcases idxN 11 (by decide +kernel) a with q2 | ⟨k2, hk2, q2⟩
  · refine sw_V (M' := MX3_shelfAt) (d' := d - 1) (bc' := 1) (bs' := 6) (ci := 4) (as := [_]) dX3_disjoint_2 w_402 ok_X3_shelfAt (m_shelfAt_x hR (Nat.le_refl _) (Nat.le_refl _) q2) hR.1 rfl (by omega) (Nat.le_of_ble_eq_true rfl) (by omega) (by omega) (dx_x (swx_out rfl ?_)) (fun v h' n' _ z => dx_k z)
    rw [opDisjoint, onSh_x q2]
    exact ⟨rfl, rfl, hR, FrC.rf⟩
  subst q2
  refine sw_V (M' := MX3_shelfAt) (d' := d - 1) (bc' := 1) (bs' := 6) (ci := 4) (as := [_]) dX3_disjoint_2 w_402 ok_X3_shelfAt (m_shelfAt_k hR (Nat.le_refl _) (Nat.le_refl _) hk2) hR.1 rfl (by omega) (Nat.le_of_ble_eq_true rfl) (by omega) (by omega) (fun E h' n' _ z => det_x z) (det_k ?_)
  refine sw_astore_n (pc' := 6) (lv' := [(3, _), (0, _), (1, _), (2, _)]) rfl dX3_disjoint_5 (by decide +kernel) rfl ?_
  refine sw_aload_n (pc' := 7) rfl dX3_disjoint_6 rfl ?_
  refine sw_iload_n (pc' := 8) rfl dX3_disjoint_7 rfl ?_
  rcases idxN 11 (by decide +kernel) b with q8 | ⟨k8, hk8, q8⟩
  · refine sw_V (M' := MX3_shelfAt) (d' := d - 1) (bc' := 1) (bs' := 6) (ci := 4) (as := [_]) dX3_disjoint_8 w_402 ok_X3_shelfAt (m_shelfAt_x hR (Nat.le_refl _) (Nat.le_refl _) q8) hR.1 rfl (by omega) (Nat.le_of_ble_eq_true rfl) (by omega) (by omega) (dx_x (swx_out rfl ?_)) (fun v h' n' _ z => dx_k z)
    rw [opDisjoint, onSh_k hk2, onSh_x q8]
    exact ⟨rfl, rfl, hR, FrC.rf⟩
  subst q8
  refine sw_V (M' := MX3_shelfAt) (d' := d - 1) (bc' := 1) (bs' := 6) (ci := 4) (as := [_]) dX3_disjoint_8 w_402 ok_X3_shelfAt (m_shelfAt_k hR (Nat.le_refl _) (Nat.le_refl _) hk8) hR.1 rfl (by omega) (Nat.le_of_ble_eq_true rfl) (by omega) (by omega) (fun E h' n' _ z => det_x z) (det_k ?_)
  refine sw_astore (pc' := 13) (lv' := [(4, _), (3, _), (0, _), (1, _), (2, _)]) rfl dX3_disjoint_11 (by decide +kernel) rfl ?_
  refine sw_aload_n (pc' := 14) rfl dX3_disjoint_13 rfl ?_
  refine sw_aload (pc' := 16) rfl dX3_disjoint_14 rfl ?_
  refine sw_S (M' := MX3_hasNothingsThatAreNotTaken) (d' := d - 1) (bc' := 0) (bs' := 0) (as := [_, _]) dX3_disjoint_16 w_527 ok_X3_hasNothingsThatAreNotTaken (m_hasNothingsThatAreNotTaken (hR.sh hk2) (hR.sh hk8) (hR.kd kdO_r) (by omega)) (by omega) (Nat.le_of_ble_eq_true rfl) (Nat.zero_le _) (Nat.zero_le _) (fun E h' n' _ z => det_x z) (det_k ?_)
  refine sw_if_ne (pc' := 22) (tgt := 31) rfl dX3_disjoint_19 (by decide +kernel) (fun c19 => ?_) (fun c19 => ?_)
  · refine sw_aload_n (pc' := 32) rfl dX3_disjoint_31 rfl ?_
    refine sw_V (M' := MX3_refuse) (d' := d - 1) (bc' := 0) (bs' := 0) (ci := 4) (as := []) dX3_disjoint_32 w_439 ok_X3_refuse (m_refuse hR) hR.1 rfl (by omega) (Nat.le_of_ble_eq_true rfl) (by omega) (by omega) (fun E h' n' _ z => cp_x z) (cp_k (fun p32 p32R p32F => ?_))
    refine sw_ret (v := some _) ⟨dX3_disjoint_35, _, rfl, rfl⟩ ?_
    rw [opDisjoint, onSh_k hk2, onSh_k hk8, if_pos (Or.inl (show nnB σ k2 k8 = true from bI_1 c19))]
    exact ⟨rfl, rfl, p32R, p32F⟩
  · refine sw_aload (pc' := 24) rfl dX3_disjoint_22 rfl ?_
    refine sw_aload_n (pc' := 25) rfl dX3_disjoint_24 rfl ?_
    refine sw_S (M' := MX3_hasNothingsThatAreNotTaken) (d' := d - 1) (bc' := 0) (bs' := 0) (as := [_, _]) dX3_disjoint_25 w_527 ok_X3_hasNothingsThatAreNotTaken (m_hasNothingsThatAreNotTaken (hR.sh hk8) (hR.sh hk2) (hR.kd kdO_r) (by omega)) (by omega) (Nat.le_of_ble_eq_true rfl) (Nat.zero_le _) (Nat.zero_le _) (fun E h' n' _ z => det_x z) (det_k ?_)
    refine sw_if_eq (pc' := 31) (tgt := 36) rfl dX3_disjoint_28 (by decide +kernel) (fun c28 => ?_) (fun c28 => ?_)
    · refine sw_iconst (pc' := 37) (v := 0) rfl dX3_disjoint_36 (by decide +kernel) ?_
      refine sw_istore (pc' := 39) (lv' := [(5, _), (4, _), (3, _), (0, _), (1, _), (2, _)]) rfl dX3_disjoint_37 (by decide +kernel) rfl ?_
      rw [opDisjoint, onSh_k hk2, onSh_k hk8, if_neg (fun q => q.elim (fun e => Bool.noConfusion ((show nnB σ k2 k8 = false from bI_0 c19).symm.trans e)) (fun e => Bool.noConfusion ((show nnB σ k8 k2 = false from bI_0 c28).symm.trans e)))]
      exact l_disjoint hR hk2 hk8 (by omega) _ 0 (by omega)
    · refine sw_aload_n (pc' := 32) rfl dX3_disjoint_31 rfl ?_
      refine sw_V (M' := MX3_refuse) (d' := d - 1) (bc' := 0) (bs' := 0) (ci := 4) (as := []) dX3_disjoint_32 w_439 ok_X3_refuse (m_refuse hR) hR.1 rfl (by omega) (Nat.le_of_ble_eq_true rfl) (by omega) (by omega) (fun E h' n' _ z => cp_x z) (cp_k (fun p32 p32R p32F => ?_))
      refine sw_ret (v := some _) ⟨dX3_disjoint_35, _, rfl, rfl⟩ ?_
      rw [opDisjoint, onSh_k hk2, onSh_k hk8, if_pos (Or.inr (show nnB σ k8 k2 = true from bI_1 c28))]
      exact ⟨rfl, rfl, p32R, p32F⟩
