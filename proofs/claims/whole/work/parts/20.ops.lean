/-! more calls -/
def onLi (a : Int32) (σ : CS) (g : Nat → ARes × CS) : ARes × CS := if a < 8 then (xI, σ) else onSh a σ g
theorem onLi_x {a : Int32} {σ : CS} {g : Nat → ARes × CS} (q : a < 8) : onLi a σ g = (xI, σ) := if_pos q
theorem onLi_y {a : Int32} {σ : CS} {g : Nat → ARes × CS} (q0 : ¬ a < 8) (q : a < 0 ∨ nI 11 ≤ a) : onLi a σ g = (xI, σ) := (if_neg q0).trans (onSh_x q)
theorem onLi_k {k : Nat} {σ : CS} {g : Nat → ARes × CS} (q0 : ¬ nI k < 8) (hk : k < 11) : onLi (nI k) σ g = g k := (if_neg q0).trans (onSh_k hk)
def la2 (σ : CS) (k j : Nat) (x : Int32) : CS := sU σ k (laN (σ.1 k) j x (σ.2.1 k)) (σ.2.1 k + 1) (σ.2.2.1 k + 1) (σ.2.2.2.1 k)
def prR (σ : CS) (x : Int32) : Nat := rpN (σ.1 6) x 0 (σ.2.1 6)
def opPair (σ : CS) (x y : Int32) : ARes × CS := if x < 0 ∨ 100 ≤ x then (xA, σ) else if y < 0 ∨ 100 ≤ y then (xA, σ) else match fpN (σ.1 6) x 0 (σ.2.1 6) with | some p => (rI (σ.1 7 p), sU σ 7 (up (σ.1 7) p y) (σ.2.1 7) (σ.2.2.1 7) (σ.2.2.2.1 7)) | none => if 12 < nI (σ.2.1 6) + 1 then (xS, σ) else (rI (-1), la2 (la2 σ 6 (prR σ x) x) 7 (prR σ x) y)
def kpU (σ : CS) (k j : Nat) (m : Nat) : CS := sU σ k (blN (σ.1 k) (σ.1 j) m (σ.2.1 j - m)) (σ.2.1 j - m) (σ.2.2.1 k + 1) (σ.2.2.2.1 k)
def opKeep (σ : CS) (a b : Int32) : ARes × CS := onLi a σ (fun k => onSh b σ (fun j => (rI (nI (σ.2.1 j)), kpU σ k j 0)))
theorem m_clear {h : AH} {σ : CS} {d bc bs n : Nat} {a : Int32} (hR : RC h σ) (hd : 6 ≤ d) (hb1 : 20 ≤ bc) (hb2 : 200 ≤ bs) : SM SR0 MX3_clear d bc bs [.ref 100, .int a] h n (CP h n (opClear σ a)) := by
  refine sm_of pn_Overwalks rfl (Nat.le_of_ble_eq_true rfl) ?_
  refine sw_aload_n (pc' := 1) rfl dX3_clear_0 rfl ?_
  refine sw_iload_n (pc' := 2) rfl dX3_clear_1 rfl ?_
  rcases idxN 11 (by decide +kernel) a with q2 | ⟨k2, hk2, q2⟩
  · refine sw_V (M' := MX3_shelfAt) (d' := d - 1) (bc' := 1) (bs' := 6) (ci := 4) (as := [_]) dX3_clear_2 w_402 ok_X3_shelfAt (m_shelfAt_x hR (Nat.le_refl _) (Nat.le_refl _) q2) hR.1 rfl (by omega) (Nat.le_of_ble_eq_true rfl) (by omega) (by omega) (dx_x (swx_out rfl ?_)) (fun v h' n' _ z => dx_k z)
    rw [opClear, onSh_x q2]
    exact ⟨rfl, rfl, hR, FrC.rf⟩
  subst q2
  refine sw_V (M' := MX3_shelfAt) (d' := d - 1) (bc' := 1) (bs' := 6) (ci := 4) (as := [_]) dX3_clear_2 w_402 ok_X3_shelfAt (m_shelfAt_k hR (Nat.le_refl _) (Nat.le_refl _) hk2) hR.1 rfl (by omega) (Nat.le_of_ble_eq_true rfl) (by omega) (by omega) (fun E h' n' _ z => det_x z) (det_k ?_)
  refine sw_astore_n (pc' := 6) (lv' := [(2, _), (0, _), (1, _)]) rfl dX3_clear_5 (by decide +kernel) rfl ?_
  refine sw_aload_n (pc' := 7) rfl dX3_clear_6 rfl ?_
  refine sw_getf (ci := 2) (k := 2) (pc' := 10) rfl dX3_clear_7 (by decide +kernel) w_84 (hR.sh hk2).1 rfl ?_
  refine sw_istore_n (pc' := 11) (lv' := [(3, _), (2, _), (0, _), (1, _)]) rfl dX3_clear_10 (by decide +kernel) rfl ?_
  refine sw_aload_n (pc' := 12) rfl dX3_clear_11 rfl ?_
  refine sw_V (M' := MX1_isOfTable) (d' := d - 1) (bc' := 0) (bs' := 0) (ci := 2) (as := []) dX3_clear_12 w_430 ok_X1_isOfTable (m_isOfTable (hR.sh hk2) kdO_r) (hR.sh hk2).1 rfl (by omega) (Nat.le_of_ble_eq_true rfl) (by omega) (by omega) (fun E h' n' _ z => det_x z) (det_k ?_)
  refine sw_if_eq (pc' := 18) (tgt := 41) rfl dX3_clear_15 (by decide +kernel) (fun c15 => ?_) (fun c15 => ?_)
  · refine sw_aload_n (pc' := 42) rfl dX3_clear_41 rfl ?_
    refine sw_V (M' := MX1_liftAll) (d' := d - 1) (bc' := 0) (bs' := 0) (ci := 2) (as := []) dX3_clear_42 w_497 ok_X1_liftAll (m_liftAll (hR.sh (k := k2) hk2)) (hR.sh (k := k2) hk2).1 rfl (by omega) (Nat.le_of_ble_eq_true rfl) (by omega) (by omega) (fun E h' n' _ z => shp_x z) (shp_k (fun p42 p42S p42F => ?_))
    have p42R : RC p42 (la1 σ k2) := hR.sU hk2 p42S p42F
    have p42C : FrC h p42 n := p42F.c hk2
    refine sw_iload_n (pc' := 46) rfl dX3_clear_45 rfl ?_
    refine sw_ret (v := some _) ⟨dX3_clear_46, _, rfl, rfl⟩ ?_
    rw [opClear, onSh_k hk2, show laU σ k2 = la1 σ k2 from if_neg (of_decide_eq_false (bI_0 c15))]
    exact ⟨rfl, rfl, p42R, p42C⟩
  · obtain ⟨g1, ga1, gb1⟩ := hR.2.1
    refine sw_aload_n (pc' := 19) rfl dX3_clear_18 rfl ?_
    refine sw_getf (ci := 4) (k := 0) (pc' := 22) rfl dX3_clear_19 (by decide +kernel) w_150 hR.1 rfl ?_
    refine sw_bipush (pc' := 24) (v := 6) rfl dX3_clear_22 (by decide +kernel) ?_
    refine sw_aald (pc' := 25) rfl dX3_clear_24 ga1 (by decide +kernel) (by decide +kernel) (j := 6) rfl (by decide +kernel) (by decide +kernel) (gb1 6 (by decide +kernel)) ?_
    refine sw_V (M' := MX1_liftAll) (d' := d - 1) (bc' := 0) (bs' := 0) (ci := 2) (as := []) dX3_clear_25 w_497 ok_X1_liftAll (m_liftAll (hR.sh (k := 6) (by decide +kernel))) (hR.sh (k := 6) (by decide +kernel)).1 rfl (by omega) (Nat.le_of_ble_eq_true rfl) (by omega) (by omega) (fun E h' n' _ z => shp_x z) (shp_k (fun p25 p25S p25F => ?_))
    have p25R : RC p25 (la1 σ 6) := hR.sU (by decide +kernel) p25S p25F
    have p25C : FrC h p25 n := p25F.c (by decide +kernel)
    obtain ⟨g2, ga2, gb2⟩ := p25R.2.1
    refine sw_aload_n (pc' := 29) rfl dX3_clear_28 rfl ?_
    refine sw_getf (ci := 4) (k := 0) (pc' := 32) rfl dX3_clear_29 (by decide +kernel) w_150 p25R.1 rfl ?_
    refine sw_bipush (pc' := 34) (v := 7) rfl dX3_clear_32 (by decide +kernel) ?_
    refine sw_aald (pc' := 35) rfl dX3_clear_34 ga2 (by decide +kernel) (by decide +kernel) (j := 7) rfl (by decide +kernel) (by decide +kernel) (gb2 7 (by decide +kernel)) ?_
    refine sw_V (M' := MX1_liftAll) (d' := d - 1) (bc' := 0) (bs' := 0) (ci := 2) (as := []) dX3_clear_35 w_497 ok_X1_liftAll (m_liftAll (p25R.sh (k := 7) (by decide +kernel))) (p25R.sh (k := 7) (by decide +kernel)).1 rfl (by omega) (Nat.le_of_ble_eq_true rfl) (by omega) (by omega) (fun E h' n' _ z => shp_x z) (shp_k (fun p35 p35S p35F => ?_))
    have p35R : RC p35 (la1 (la1 σ 6) 7) := p25R.sU (by decide +kernel) p35S p35F
    have p35C : FrC h p35 n := p25C.tr (p35F.c (by decide +kernel)) (Nat.le_refl _)
    refine sw_goto (tgt := 45) dX3_clear_38 (by decide +kernel) ?_
    refine sw_iload_n (pc' := 46) rfl dX3_clear_45 rfl ?_
    refine sw_ret (v := some _) ⟨dX3_clear_46, _, rfl, rfl⟩ ?_
    rw [opClear, onSh_k hk2, show laU σ k2 = la1 (la1 σ 6) 7 from if_pos (of_decide_eq_true (bI_1 c15))]
    exact ⟨rfl, rfl, p35R, p35C⟩
theorem m_pair {h : AH} {σ : CS} {d bc bs n : Nat} {x y : Int32} (hR : RC h σ) (hd : 6 ≤ d) (hb1 : 20 ≤ bc) (hb2 : 200 ≤ bs) (hT : σ.2.1 6 = σ.2.1 7) : SM SR0 MX3_pair d bc bs [.ref 100, .int x, .int y] h n (CP h n (opPair σ x y)) := by
  refine sm_of pn_Overwalks rfl (Nat.le_of_ble_eq_true rfl) ?_
  refine sw_iload_n (pc' := 1) rfl dX3_pair_0 rfl ?_
  rcases Classical.em (x < 0 ∨ 100 ≤ x) with q1 | q1
  · refine sw_S (M' := MX3_requireThing) (d' := d - 1) (bc' := 1) (bs' := 6) (as := [_]) dX3_pair_1 w_508 ok_X3_requireThing (m_requireThing_x (Nat.le_refl _) (Nat.le_refl _) q1) (by omega) (Nat.le_of_ble_eq_true rfl) (by omega) (by omega) (dx_x (swx_out rfl ?_)) (fun v h' n' _ z => dx_k z)
    rw [opPair, if_pos q1]
    exact ⟨rfl, rfl, hR, FrC.rf⟩
  refine sw_S (M' := MX3_requireThing) (d' := d - 1) (bc' := 1) (bs' := 6) (as := [_]) dX3_pair_1 w_508 ok_X3_requireThing (m_requireThing_k (Nat.le_refl _) (Nat.le_refl _) q1) (by omega) (Nat.le_of_ble_eq_true rfl) (by omega) (by omega) (fun E h' n' _ z => det_x z) (det_k ?_)
  refine sw_iload_n (pc' := 5) rfl dX3_pair_4 rfl ?_
  rcases Classical.em (y < 0 ∨ 100 ≤ y) with q5 | q5
  · refine sw_S (M' := MX3_requireThing) (d' := d - 1) (bc' := 1) (bs' := 6) (as := [_]) dX3_pair_5 w_508 ok_X3_requireThing (m_requireThing_x (Nat.le_refl _) (Nat.le_refl _) q5) (by omega) (Nat.le_of_ble_eq_true rfl) (by omega) (by omega) (dx_x (swx_out rfl ?_)) (fun v h' n' _ z => dx_k z)
    rw [opPair, if_neg q1, if_pos q5]
    exact ⟨rfl, rfl, hR, FrC.rf⟩
  refine sw_S (M' := MX3_requireThing) (d' := d - 1) (bc' := 1) (bs' := 6) (as := [_]) dX3_pair_5 w_508 ok_X3_requireThing (m_requireThing_k (Nat.le_refl _) (Nat.le_refl _) q5) (by omega) (Nat.le_of_ble_eq_true rfl) (by omega) (by omega) (fun E h' n' _ z => det_x z) (det_k ?_)
  obtain ⟨g1, ga1, gb1⟩ := hR.2.1
  refine sw_aload_n (pc' := 9) rfl dX3_pair_8 rfl ?_
  refine sw_getf (ci := 4) (k := 0) (pc' := 12) rfl dX3_pair_9 (by decide +kernel) w_150 hR.1 rfl ?_
  refine sw_bipush (pc' := 14) (v := 6) rfl dX3_pair_12 (by decide +kernel) ?_
  refine sw_aald (pc' := 15) rfl dX3_pair_14 ga1 (by decide +kernel) (by decide +kernel) (j := 6) rfl (by decide +kernel) (by decide +kernel) (gb1 6 (by decide +kernel)) ?_
  refine sw_astore_n (pc' := 16) (lv' := [(3, _), (0, _), (1, _), (2, _)]) rfl dX3_pair_15 (by decide +kernel) rfl ?_
  refine sw_aload_n (pc' := 17) rfl dX3_pair_16 rfl ?_
  refine sw_getf (ci := 4) (k := 0) (pc' := 20) rfl dX3_pair_17 (by decide +kernel) w_150 hR.1 rfl ?_
  refine sw_bipush (pc' := 22) (v := 7) rfl dX3_pair_20 (by decide +kernel) ?_
  refine sw_aald (pc' := 23) rfl dX3_pair_22 ga1 (by decide +kernel) (by decide +kernel) (j := 7) rfl (by decide +kernel) (by decide +kernel) (gb1 7 (by decide +kernel)) ?_
  refine sw_astore (pc' := 25) (lv' := [(4, _), (3, _), (0, _), (1, _), (2, _)]) rfl dX3_pair_23 (by decide +kernel) rfl ?_
  refine sw_aload_n (pc' := 26) rfl dX3_pair_25 rfl ?_
  refine sw_iload_n (pc' := 27) rfl dX3_pair_26 rfl ?_
  refine sw_V (M' := MX1_firstPlace) (d' := d - 1) (bc' := 0) (bs' := 0) (ci := 2) (as := [_]) dX3_pair_27 w_481 ok_X1_firstPlace (m_firstPlace (hR.sh (k := 6) (by decide +kernel))) (hR.sh (k := 6) (by decide +kernel)).1 rfl (by omega) (Nat.le_of_ble_eq_true rfl) (by omega) (by omega) (fun E h' n' _ z => det_x z) (det_k ?_)
  refine sw_istore (pc' := 32) (lv' := [(5, _), (4, _), (3, _), (0, _), (1, _), (2, _)]) rfl dX3_pair_30 (by decide +kernel) rfl ?_
  refine sw_iload (pc' := 34) rfl dX3_pair_32 rfl ?_
  refine sw_iconst (pc' := 35) (v := (-1)) rfl dX3_pair_34 (by decide +kernel) ?_
  refine sw_icmp_eq (pc' := 38) (tgt := 47) rfl dX3_pair_35 (by decide +kernel) (fun c35 => ?_) (fun c35 => ?_)
  · have hc6 := (hR.sh (k := 6) (by decide +kernel)).2.2.1
    have e1 := opI_n (o := fpN (σ.1 6) x 0 (σ.2.1 6)) (fun j e => by have := fpN_at e; omega) c35
    have e2 : opPair σ x y = (if 12 < nI (σ.2.1 6) + 1 then (xS, σ) else (rI (-1), la2 (la2 σ 6 (prR σ x) x) 7 (prR σ x) y)) := by rw [opPair, if_neg q1, if_neg q5, e1]
    refine sw_aload_n (pc' := 48) rfl dX3_pair_47 rfl ?_
    refine sw_iconst (pc' := 49) (v := 1) rfl dX3_pair_48 (by decide +kernel) ?_
    rcases Classical.em (12 < nI (σ.2.1 6) + 1) with q49 | q49
    · refine sw_S (M' := MX3_requireRoom) (d' := d - 1) (bc' := 1) (bs' := 6) (as := [_, _]) dX3_pair_49 w_411 ok_X3_requireRoom (m_requireRoom_x (hR.sh (k := 6) (by decide +kernel)) (Nat.le_refl _) (Nat.le_refl _) q49) (by omega) (Nat.le_of_ble_eq_true rfl) (by omega) (by omega) (dx_x (swx_out rfl ?_)) (fun v h' n' _ z => dx_k z)
      rw [e2, if_pos q49]
      exact ⟨rfl, rfl, hR, FrC.rf⟩
    refine sw_S (M' := MX3_requireRoom) (d' := d - 1) (bc' := 1) (bs' := 6) (as := [_, _]) dX3_pair_49 w_411 ok_X3_requireRoom (m_requireRoom_k (hR.sh (k := 6) (by decide +kernel)) (Nat.le_refl _) (Nat.le_refl _) q49) (by omega) (Nat.le_of_ble_eq_true rfl) (by omega) (by omega) (fun E h' n' _ z => det_x z) (det_k ?_)
    refine sw_aload_n (pc' := 53) rfl dX3_pair_52 rfl ?_
    refine sw_iload_n (pc' := 54) rfl dX3_pair_53 rfl ?_
    refine sw_V (M' := MX1_risingPlace) (d' := d - 1) (bc' := 0) (bs' := 0) (ci := 2) (as := [_]) dX3_pair_54 w_516 ok_X1_risingPlace (m_risingPlace (hR.sh (k := 6) (by decide +kernel))) (hR.sh (k := 6) (by decide +kernel)).1 rfl (by omega) (Nat.le_of_ble_eq_true rfl) (by omega) (by omega) (fun E h' n' _ z => det_x z) (det_k ?_)
    have hrp := (rpN_at (f := σ.1 6) (x := x) (m := σ.2.1 6) (j := 0)).2
    have hc12 := roomC hc6 q49
    refine sw_istore (pc' := 59) (lv' := [(5, _), (4, _), (3, _), (0, _), (1, _), (2, _)]) rfl dX3_pair_57 (by decide +kernel) rfl ?_
    refine sw_aload_n (pc' := 60) rfl dX3_pair_59 rfl ?_
    refine sw_iload (pc' := 62) rfl dX3_pair_60 rfl ?_
    refine sw_iload_n (pc' := 63) rfl dX3_pair_62 rfl ?_
    refine sw_V (M' := MX1_layAhead) (d' := d - 1) (bc' := 0) (bs' := 0) (ci := 2) (as := [_, _]) dX3_pair_63 w_235 ok_X1_layAhead (m_layAhead (j := prR σ x) (hR.sh (k := 6) (by decide +kernel)) (by unfold prR; omega) hc12) (hR.sh (k := 6) (by decide +kernel)).1 rfl (by omega) (Nat.le_of_ble_eq_true rfl) (by omega) (by omega) (fun E h' n' _ z => shp_x z) (shp_k (fun p63 p63S p63F => ?_))
    have p63R : RC p63 (la2 σ 6 (prR σ x) x) := hR.sU (by decide +kernel) p63S p63F
    have p63C : FrC h p63 n := p63F.c (by decide +kernel)
    refine sw_pop (pc' := 67) rfl dX3_pair_66 rfl ?_
    have hc7 : (la2 σ 6 (prR σ x) x).2.1 7 = σ.2.1 7 := show up σ.2.1 6 (σ.2.1 6 + 1) 7 = σ.2.1 7 from up_n (by decide +kernel)
    refine sw_aload (pc' := 69) rfl dX3_pair_67 rfl ?_
    refine sw_iload (pc' := 71) rfl dX3_pair_69 rfl ?_
    refine sw_iload_n (pc' := 72) rfl dX3_pair_71 rfl ?_
    refine sw_V (M' := MX1_layAhead) (d' := d - 1) (bc' := 0) (bs' := 0) (ci := 2) (as := [_, _]) dX3_pair_72 w_235 ok_X1_layAhead (m_layAhead (j := prR σ x) (p63R.sh (k := 7) (by decide +kernel)) (by rw [hc7]; unfold prR; omega) (by rw [hc7]; omega)) (p63R.sh (k := 7) (by decide +kernel)).1 rfl (by omega) (Nat.le_of_ble_eq_true rfl) (by omega) (by omega) (fun E h' n' _ z => shp_x z) (shp_k (fun p72 p72S p72F => ?_))
    have p72R : RC p72 (la2 (la2 σ 6 (prR σ x) x) 7 (prR σ x) y) := p63R.sU (by decide +kernel) p72S p72F
    have p72C : FrC h p72 n := p63C.tr (p72F.c (by decide +kernel)) (Nat.le_refl _)
    refine sw_pop (pc' := 76) rfl dX3_pair_75 rfl ?_
    refine sw_iconst (pc' := 77) (v := (-1)) rfl dX3_pair_76 (by decide +kernel) ?_
    refine sw_ret (v := some _) ⟨dX3_pair_77, _, rfl, rfl⟩ ?_
    rw [e2, if_neg q49]
    exact ⟨rfl, rfl, p72R, p72C⟩
  · have e1 : ∃ p, fpN (σ.1 6) x 0 (σ.2.1 6) = some p := by
      cases e : fpN (σ.1 6) x 0 (σ.2.1 6) with
      | none => rw [e] at c35; exact absurd rfl c35
      | some p => exact ⟨p, rfl⟩
    obtain ⟨p, e1⟩ := e1
    have hp := (fpN_at e1).2.1
    rw [show opI (fpN (σ.1 6) x 0 (σ.2.1 6)) = nI p from by rw [e1]; rfl]
    refine sw_aload (pc' := 40) rfl dX3_pair_38 rfl ?_
    refine sw_iload (pc' := 42) rfl dX3_pair_40 rfl ?_
    refine sw_iload_n (pc' := 43) rfl dX3_pair_42 rfl ?_
    refine sw_V (M' := MX1_exchange) (d' := d - 1) (bc' := 0) (bs' := 0) (ci := 2) (as := [_, _]) dX3_pair_43 w_512 ok_X1_exchange (m_exchange (j := p) (hR.sh (k := 7) (by decide +kernel)) (by omega)) (hR.sh (k := 7) (by decide +kernel)).1 rfl (by omega) (Nat.le_of_ble_eq_true rfl) (by omega) (by omega) (fun E h' n' _ z => shp_x z) (shp_k (fun p43 p43S p43F => ?_))
    have p43R : RC p43 (sU σ 7 (up (σ.1 7) p y) (σ.2.1 7) (σ.2.2.1 7) (σ.2.2.2.1 7)) := hR.sU (by decide +kernel) p43S p43F
    have p43C : FrC h p43 n := p43F.c (by decide +kernel)
    refine sw_ret (v := some _) ⟨dX3_pair_46, _, rfl, rfl⟩ ?_
    rw [opPair, if_neg q1, if_neg q5, e1]
    exact ⟨rfl, rfl, p43R, p43C⟩
theorem m_listAt_x {h : AH} {σ : CS} {d bc bs n : Nat} {x : Int32} (hR : RC h σ) (h1 : 2 ≤ bc) (h2 : 12 ≤ bs) (hd : 1 ≤ d) (q0 : x < 8) : SM SR0 MX3_listAt d bc bs [.ref 100, .int x] h n (Det xI h n) := by
  refine sm_of pn_Overwalks rfl (Nat.le_of_ble_eq_true rfl) ?_
  refine sw_iload_n (pc' := 1) rfl dX3_listAt_0 rfl ?_
  refine sw_bipush (pc' := 3) (v := 8) rfl dX3_listAt_1 (by decide +kernel) ?_
  refine sw_icmp_ge (pc' := 6) (tgt := 17) rfl dX3_listAt_3 (by decide +kernel) (fun c3 => ?_) (fun c3 => ?_)
  · exact absurd c3 (Int32.not_le.mpr q0)
  · refine sw_throwW (names := ["java/lang/RuntimeException", "java/lang/Exception"]) rfl dX3_listAt_6 dX3_listAt_9 dX3_listAt_10 dX3_listAt_13 dX3_listAt_16 (by decide +kernel) (by decide +kernel) (by decide +kernel) w_361 w_49 (SRm 17 rfl) th_Overwalks_339 (by omega) (by omega) ?_
    exact ⟨rfl, rfl, rfl⟩
theorem m_listAt_y {h : AH} {σ : CS} {d bc bs n : Nat} {x : Int32} (hR : RC h σ) (h1 : 2 ≤ bc) (h2 : 12 ≤ bs) (hd : 1 ≤ d) (q0 : ¬ x < 8) (q : x < 0 ∨ nI 11 ≤ x) : SM SR0 MX3_listAt d bc bs [.ref 100, .int x] h n (Det xI h n) := by
  refine sm_of pn_Overwalks rfl (Nat.le_of_ble_eq_true rfl) ?_
  refine sw_iload_n (pc' := 1) rfl dX3_listAt_0 rfl ?_
  refine sw_bipush (pc' := 3) (v := 8) rfl dX3_listAt_1 (by decide +kernel) ?_
  refine sw_icmp_ge (pc' := 6) (tgt := 17) rfl dX3_listAt_3 (by decide +kernel) (fun c3 => ?_) (fun c3 => ?_)
  · refine sw_aload_n (pc' := 18) rfl dX3_listAt_17 rfl ?_
    refine sw_iload_n (pc' := 19) rfl dX3_listAt_18 rfl ?_
    refine sw_V (M' := MX3_shelfAt) (d' := d - 1) (bc' := 1) (bs' := 6) (ci := 4) (as := [_]) dX3_listAt_19 w_402 ok_X3_shelfAt (m_shelfAt_x hR (Nat.le_refl _) (Nat.le_refl _) q) hR.1 rfl (by omega) (Nat.le_of_ble_eq_true rfl) (by omega) (by omega) (dx_x (swx_out rfl ?_)) (fun v h' n' _ z => dx_k z)
    exact ⟨rfl, rfl, rfl⟩
  · exact absurd (Int32.not_lt.mp q0) c3
theorem m_listAt_k {h : AH} {σ : CS} {d bc bs n : Nat} {k : Nat} (hR : RC h σ) (h1 : 2 ≤ bc) (h2 : 12 ≤ bs) (hd : 1 ≤ d) (q0 : ¬ nI k < 8) (hk : k < 11) : SM SR0 MX3_listAt d bc bs [.ref 100, .int (nI k)] h n (Det (.inl (some (.ref (102 + 2 * k)))) h n) := by
  refine sm_of pn_Overwalks rfl (Nat.le_of_ble_eq_true rfl) ?_
  refine sw_iload_n (pc' := 1) rfl dX3_listAt_0 rfl ?_
  refine sw_bipush (pc' := 3) (v := 8) rfl dX3_listAt_1 (by decide +kernel) ?_
  refine sw_icmp_ge (pc' := 6) (tgt := 17) rfl dX3_listAt_3 (by decide +kernel) (fun c3 => ?_) (fun c3 => ?_)
  · refine sw_aload_n (pc' := 18) rfl dX3_listAt_17 rfl ?_
    refine sw_iload_n (pc' := 19) rfl dX3_listAt_18 rfl ?_
    refine sw_V (M' := MX3_shelfAt) (d' := d - 1) (bc' := 1) (bs' := 6) (ci := 4) (as := [_]) dX3_listAt_19 w_402 ok_X3_shelfAt (m_shelfAt_k hR (Nat.le_refl _) (Nat.le_refl _) hk) hR.1 rfl (by omega) (Nat.le_of_ble_eq_true rfl) (by omega) (by omega) (fun E h' n' _ z => det_x z) (det_k ?_)
    refine sw_ret (v := some _) ⟨dX3_listAt_22, _, rfl, Or.inl ⟨_, rfl⟩⟩ ?_
    exact ⟨rfl, rfl, rfl⟩
  · exact absurd (Int32.not_lt.mp q0) c3
theorem m_keepC {h : AH} {σ : CS} {d bc bs n k j m : Nat} (hR : RC h σ) (hk : k < 11) (hj : j < 11) (hm : m ≤ σ.2.1 j) (hkj : k = j → m = 0) (hd : 1 ≤ d) : SM SR0 MX1_becomeListOf d bc bs [.ref (102 + 2 * k), .ref (102 + 2 * j), .int (nI m)] h n (ShP h (102 + 2 * k) (kdO k) none (blN (σ.1 k) (σ.1 j) m (σ.2.1 j - m)) (σ.2.1 j - m) (σ.2.2.1 k + 1) (σ.2.2.2.1 k) n) := by
  by_cases e : k = j
  · subst e
    have hm0 := hkj rfl
    subst hm0
    rw [blN_self]
    exact m_becomeListOfS (hR.sh hk) hd
  · exact m_becomeListOf (hR.sh hk) (hR.sh hj) hd (by omega) hm
theorem m_keep {h : AH} {σ : CS} {d bc bs n : Nat} {a b : Int32} (hR : RC h σ) (hd : 6 ≤ d) (hb1 : 20 ≤ bc) (hb2 : 200 ≤ bs) : SM SR0 MX3_keep d bc bs [.ref 100, .int a, .int b] h n (CP h n (opKeep σ a b)) := by
  refine sm_of pn_Overwalks rfl (Nat.le_of_ble_eq_true rfl) ?_
  refine sw_aload_n (pc' := 1) rfl dX3_keep_0 rfl ?_
  refine sw_iload_n (pc' := 2) rfl dX3_keep_1 rfl ?_
  rcases Classical.em (a < 8) with q2 | q2
  · refine sw_V (M' := MX3_listAt) (d' := d - 1) (bc' := 2) (bs' := 12) (ci := 4) (as := [_]) dX3_keep_2 w_959 ok_X3_listAt (m_listAt_x hR (Nat.le_refl _) (Nat.le_refl _) (by omega) q2) hR.1 rfl (by omega) (Nat.le_of_ble_eq_true rfl) (by omega) (by omega) (dx_x (swx_out rfl ?_)) (fun v h' n' _ z => dx_k z)
    rw [opKeep, onLi_x q2]
    exact ⟨rfl, rfl, hR, FrC.rf⟩
  rcases idxN 11 (by decide +kernel) a with q2b | ⟨k2, hk2, q2b⟩
  · refine sw_V (M' := MX3_listAt) (d' := d - 1) (bc' := 2) (bs' := 12) (ci := 4) (as := [_]) dX3_keep_2 w_959 ok_X3_listAt (m_listAt_y hR (Nat.le_refl _) (Nat.le_refl _) (by omega) q2 q2b) hR.1 rfl (by omega) (Nat.le_of_ble_eq_true rfl) (by omega) (by omega) (dx_x (swx_out rfl ?_)) (fun v h' n' _ z => dx_k z)
    rw [opKeep, onLi_y q2 q2b]
    exact ⟨rfl, rfl, hR, FrC.rf⟩
  subst q2b
  refine sw_V (M' := MX3_listAt) (d' := d - 1) (bc' := 2) (bs' := 12) (ci := 4) (as := [_]) dX3_keep_2 w_959 ok_X3_listAt (m_listAt_k hR (Nat.le_refl _) (Nat.le_refl _) (by omega) q2 hk2) hR.1 rfl (by omega) (Nat.le_of_ble_eq_true rfl) (by omega) (by omega) (fun E h' n' _ z => det_x z) (det_k ?_)
  refine sw_astore_n (pc' := 6) (lv' := [(3, _), (0, _), (1, _), (2, _)]) rfl dX3_keep_5 (by decide +kernel) rfl ?_
  refine sw_aload_n (pc' := 7) rfl dX3_keep_6 rfl ?_
  refine sw_aload_n (pc' := 8) rfl dX3_keep_7 rfl ?_
  refine sw_iload_n (pc' := 9) rfl dX3_keep_8 rfl ?_
  rcases idxN 11 (by decide +kernel) b with q9 | ⟨k9, hk9, q9⟩
  · refine sw_V (M' := MX3_shelfAt) (d' := d - 1) (bc' := 1) (bs' := 6) (ci := 4) (as := [_]) dX3_keep_9 w_402 ok_X3_shelfAt (m_shelfAt_x hR (Nat.le_refl _) (Nat.le_refl _) q9) hR.1 rfl (by omega) (Nat.le_of_ble_eq_true rfl) (by omega) (by omega) (dx_x (swx_out rfl ?_)) (fun v h' n' _ z => dx_k z)
    rw [opKeep, onLi_k q2 hk2, onSh_x q9]
    exact ⟨rfl, rfl, hR, FrC.rf⟩
  subst q9
  refine sw_V (M' := MX3_shelfAt) (d' := d - 1) (bc' := 1) (bs' := 6) (ci := 4) (as := [_]) dX3_keep_9 w_402 ok_X3_shelfAt (m_shelfAt_k hR (Nat.le_refl _) (Nat.le_refl _) hk9) hR.1 rfl (by omega) (Nat.le_of_ble_eq_true rfl) (by omega) (by omega) (fun E h' n' _ z => det_x z) (det_k ?_)
  refine sw_iconst (pc' := 13) (v := 0) rfl dX3_keep_12 (by decide +kernel) ?_
  refine sw_V (M' := MX1_becomeListOf) (d' := d - 1) (bc' := 0) (bs' := 0) (ci := 2) (as := [_, _]) dX3_keep_13 w_216 ok_X1_becomeListOf (m_keepC hR hk2 hk9 (Nat.zero_le _) (fun _ => rfl) (by omega)) (hR.sh (k := k2) hk2).1 rfl (by omega) (Nat.le_of_ble_eq_true rfl) (by omega) (by omega) (fun E h' n' _ z => shp_x z) (shp_k (fun p13 p13S p13F => ?_))
  have p13R : RC p13 (kpU σ k2 k9 0) := hR.sU hk2 p13S p13F
  have p13C : FrC h p13 n := p13F.c hk2
  refine sw_aload_n (pc' := 17) rfl dX3_keep_16 rfl ?_
  refine sw_getf (ci := 2) (k := 2) (pc' := 20) rfl dX3_keep_17 (by decide +kernel) w_84 (p13R.sh hk2).1 rfl ?_
  refine sw_ret (v := some _) ⟨dX3_keep_20, _, rfl, rfl⟩ ?_
  rw [opKeep, onLi_k q2 hk2, onSh_k hk9]
  exact ⟨by rw [show (kpU σ k2 k9 0).2.1 k2 = σ.2.1 k9 from up_s]; rfl, rfl, p13R, p13C⟩
