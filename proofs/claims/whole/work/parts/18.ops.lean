/-! more calls -/
theorem roomC {c : Nat} (hc : c ≤ 12) (q : ¬ 12 < nI c + 1) : c < 12 := by
  apply Nat.lt_of_not_le
  intro g
  have e : c = 12 := by omega
  subst e
  exact q (by decide +kernel)
theorem sU_id {σ : CS} {k : Nat} : sU σ k (σ.1 k) (σ.2.1 k) (σ.2.2.1 k) (σ.2.2.2.1 k) = σ := by
  unfold sU
  rw [up_id, up_id, up_id, up_id]
theorem RC.ldS {h h' : AH} {σ : CS} (hR : RC h σ) {k : Nat} {x : Int32} (hk : k < 11) (hS : ShF h' (102 + 2 * k) (kdO k) (if ldY (σ.1 k) (σ.2.1 k) (kdO k) x then laN (σ.1 k) (ldP (σ.1 k) (σ.2.1 k) (kdO k) x) x (σ.2.1 k) else σ.1 k) (if ldY (σ.1 k) (σ.2.1 k) (kdO k) x then σ.2.1 k + 1 else σ.2.1 k) (if ldY (σ.1 k) (σ.2.1 k) (kdO k) x then σ.2.2.1 k + 1 else σ.2.2.1 k) (σ.2.2.2.1 k)) (hF : FrS h h' (102 + 2 * k)) : RC h' (ldU σ k x) := by
  unfold ldU
  by_cases e : ldY (σ.1 k) (σ.2.1 k) (kdO k) x = true
  · rw [if_pos e]
    rw [if_pos e, if_pos e, if_pos e] at hS
    exact hR.sU hk hS hF
  · rw [if_neg e]
    rw [if_neg e, if_neg e, if_neg e] at hS
    have k9 := hR.sU hk hS hF
    rw [sU_id] at k9
    exact k9
theorem plc {j c : Nat} {p : Int32} (hc : c ≤ 13) (hj : j < 2 ^ 31) (e : p = nI j) (q : ¬ (p < 0 ∨ nI c ≤ p)) : j < c := (nI_ltI hj (by omega)).mp (e ▸ Int32.not_le.mp (fun g => q (Or.inr g)))
def opDrop (σ : CS) (a : Int32) : ARes × CS := onWk a σ (fun k => (rI (bI (σ.2.2.2.2.1 k).1), wU σ k (false, (σ.2.2.2.2.1 k).2)))
def opWalk (σ : CS) (a b y : Int32) : ARes × CS := onWk a σ (fun k => onSh b σ (fun j => if y < 0 ∨ 2 < y then (xA, σ) else if y = 2 ∧ ¬ nI j = 0 then (xA, σ) else (rI (nI (σ.2.1 j)), wU σ k (true, j, y, 0, 0, σ.2.2.1 j, σ.2.2.2.1 j, false))))
def opValueOf (σ : CS) (x : Int32) : ARes × CS := if x < 0 ∨ 100 ≤ x then (xA, σ) else (rI (match fpN (σ.1 6) x 0 (σ.2.1 6) with | none => -1 | some p => taI (σ.1 7) (σ.2.1 7) (nI p)), σ)
def opPlaceOf (σ : CS) (a x y : Int32) : ARes × CS := onRw a σ (fun k => if x < 0 ∨ 100 < x then (xA, σ) else (rI (if y = 0 then opI (fpN (σ.1 k) x 0 (σ.2.1 k)) else opI (lpN (σ.1 k) x (σ.2.1 k))), σ))
def opChange (σ : CS) (a p x : Int32) : ARes × CS := onRw a σ (fun k => if p < 0 ∨ nI (σ.2.1 k) ≤ p then (xI, σ) else if x < 0 ∨ 100 < x then (xA, σ) else (rI (σ.1 k p.toNatClampNeg), sU σ k (up (σ.1 k) p.toNatClampNeg x) (σ.2.1 k) (σ.2.2.1 k) (σ.2.2.2.1 k + 1)))
def opRemove (σ : CS) (a p : Int32) : ARes × CS := onRw a σ (fun k => if p < 0 ∨ nI (σ.2.1 k) ≤ p then (xI, σ) else (rI (σ.1 k p.toNatClampNeg), sU σ k (liN (σ.1 k) p.toNatClampNeg (σ.2.1 k - 1)) (σ.2.1 k - 1) (σ.2.2.1 k + 1) (σ.2.2.2.1 k)))
def opInsert (σ : CS) (a p x : Int32) : ARes × CS := onRw a σ (fun k => if p < 0 ∨ nI (σ.2.1 k) + 1 ≤ p then (xI, σ) else if x < 0 ∨ 100 < x then (xA, σ) else if 12 < nI (σ.2.1 k) + 1 then (xS, σ) else (rI (nI (σ.2.1 k + 1)), sU σ k (laN (σ.1 k) p.toNatClampNeg x (σ.2.1 k)) (σ.2.1 k + 1) (σ.2.2.1 k + 1) (σ.2.2.2.1 k)))
def opTurn (σ : CS) (a : Int32) : ARes × CS := onRw a σ (fun k => (rI (nI (σ.2.1 k)), sU σ k (rvN (σ.1 k) 0 (0 + σ.2.1 k)) (σ.2.1 k) (σ.2.2.1 k) (σ.2.2.2.1 k + 1)))
theorem m_rowAt_x {h : AH} {σ : CS} {d bc bs n : Nat} {x : Int32} (hR : RC h σ) (h1 : 2 ≤ bc) (h2 : 12 ≤ bs) (hd : 1 ≤ d) (q : x < 0 ∨ nI 11 ≤ x) : SM SR0 MX3_rowAt d bc bs [.ref 100, .int x] h n (Det xI h n) := by
  refine sm_of pn_Overwalks rfl (Nat.le_of_ble_eq_true rfl) ?_
  refine sw_aload_n (pc' := 1) rfl dX3_rowAt_0 rfl ?_
  refine sw_iload_n (pc' := 2) rfl dX3_rowAt_1 rfl ?_
  refine sw_V (M' := MX3_shelfAt) (d' := d - 1) (bc' := 1) (bs' := 6) (ci := 4) (as := [_]) dX3_rowAt_2 w_402 ok_X3_shelfAt (m_shelfAt_x hR (Nat.le_refl _) (Nat.le_refl _) q) hR.1 rfl (by omega) (Nat.le_of_ble_eq_true rfl) (by omega) (by omega) (dx_x (swx_out rfl ?_)) (fun v h' n' _ z => dx_k z)
  exact ⟨rfl, rfl, rfl⟩
theorem m_rowAt_y {h : AH} {σ : CS} {d bc bs n : Nat} {k : Nat} (hR : RC h σ) (h1 : 2 ≤ bc) (h2 : 12 ≤ bs) (hd : 1 ≤ d) (hk : k < 11) (q : kP (kdO k) = false) : SM SR0 MX3_rowAt d bc bs [.ref 100, .int (nI k)] h n (Det xI h n) := by
  refine sm_of pn_Overwalks rfl (Nat.le_of_ble_eq_true rfl) ?_
  refine sw_aload_n (pc' := 1) rfl dX3_rowAt_0 rfl ?_
  refine sw_iload_n (pc' := 2) rfl dX3_rowAt_1 rfl ?_
  refine sw_V (M' := MX3_shelfAt) (d' := d - 1) (bc' := 1) (bs' := 6) (ci := 4) (as := [_]) dX3_rowAt_2 w_402 ok_X3_shelfAt (m_shelfAt_k hR (Nat.le_refl _) (Nat.le_refl _) hk) hR.1 rfl (by omega) (Nat.le_of_ble_eq_true rfl) (by omega) (by omega) (fun E h' n' _ z => det_x z) (det_k ?_)
  refine sw_astore_n (pc' := 6) (lv' := [(2, _), (0, _), (1, _)]) rfl dX3_rowAt_5 (by decide +kernel) rfl ?_
  refine sw_aload_n (pc' := 7) rfl dX3_rowAt_6 rfl ?_
  refine sw_getf (ci := 2) (k := 0) (pc' := 10) rfl dX3_rowAt_7 (by decide +kernel) w_81 (hR.sh hk).1 rfl ?_
  refine sw_getf (ci := 7) (k := 0) (pc' := 13) rfl dX3_rowAt_10 (by decide +kernel) w_1505 (hR.kd kdO_r).2 rfl ?_
  refine sw_if_ne (pc' := 16) (tgt := 27) rfl dX3_rowAt_13 (by decide +kernel) (fun c13 => ?_) (fun c13 => ?_)
  · exact absurd (by rw [q]; rfl) c13
  · refine sw_throwW (names := ["java/lang/RuntimeException", "java/lang/Exception"]) rfl dX3_rowAt_16 dX3_rowAt_19 dX3_rowAt_20 dX3_rowAt_23 dX3_rowAt_26 (by decide +kernel) (by decide +kernel) (by decide +kernel) w_361 w_49 (SRm 8 rfl) th_Overwalks_339 (by omega) (by omega) ?_
    exact ⟨rfl, rfl, rfl⟩
theorem m_rowAt_k {h : AH} {σ : CS} {d bc bs n : Nat} {k : Nat} (hR : RC h σ) (h1 : 2 ≤ bc) (h2 : 12 ≤ bs) (hd : 1 ≤ d) (hk : k < 11) (q : ¬ kP (kdO k) = false) : SM SR0 MX3_rowAt d bc bs [.ref 100, .int (nI k)] h n (Det (.inl (some (.ref (102 + 2 * k)))) h n) := by
  refine sm_of pn_Overwalks rfl (Nat.le_of_ble_eq_true rfl) ?_
  refine sw_aload_n (pc' := 1) rfl dX3_rowAt_0 rfl ?_
  refine sw_iload_n (pc' := 2) rfl dX3_rowAt_1 rfl ?_
  refine sw_V (M' := MX3_shelfAt) (d' := d - 1) (bc' := 1) (bs' := 6) (ci := 4) (as := [_]) dX3_rowAt_2 w_402 ok_X3_shelfAt (m_shelfAt_k hR (Nat.le_refl _) (Nat.le_refl _) hk) hR.1 rfl (by omega) (Nat.le_of_ble_eq_true rfl) (by omega) (by omega) (fun E h' n' _ z => det_x z) (det_k ?_)
  refine sw_astore_n (pc' := 6) (lv' := [(2, _), (0, _), (1, _)]) rfl dX3_rowAt_5 (by decide +kernel) rfl ?_
  refine sw_aload_n (pc' := 7) rfl dX3_rowAt_6 rfl ?_
  refine sw_getf (ci := 2) (k := 0) (pc' := 10) rfl dX3_rowAt_7 (by decide +kernel) w_81 (hR.sh hk).1 rfl ?_
  refine sw_getf (ci := 7) (k := 0) (pc' := 13) rfl dX3_rowAt_10 (by decide +kernel) w_1505 (hR.kd kdO_r).2 rfl ?_
  refine sw_if_ne (pc' := 16) (tgt := 27) rfl dX3_rowAt_13 (by decide +kernel) (fun c13 => ?_) (fun c13 => ?_)
  · refine sw_aload_n (pc' := 28) rfl dX3_rowAt_27 rfl ?_
    refine sw_ret (v := some _) ⟨dX3_rowAt_28, _, rfl, Or.inl ⟨_, rfl⟩⟩ ?_
    exact ⟨rfl, rfl, rfl⟩
  · exact absurd (bI_0 c13) q
theorem m_put {h : AH} {σ : CS} {d bc bs n : Nat} {a x : Int32} (hR : RC h σ) (hd : 6 ≤ d) (hb1 : 20 ≤ bc) (hb2 : 200 ≤ bs) : SM SR0 MX3_put d bc bs [.ref 100, .int a, .int x] h n (CP h n (opPut σ a x)) := by
  refine sm_of pn_Overwalks rfl (Nat.le_of_ble_eq_true rfl) ?_
  refine sw_aload_n (pc' := 1) rfl dX3_put_0 rfl ?_
  refine sw_iload_n (pc' := 2) rfl dX3_put_1 rfl ?_
  rcases idxN 11 (by decide +kernel) a with q2 | ⟨k2, hk2, q2⟩
  · refine sw_V (M' := MX3_shelfAt) (d' := d - 1) (bc' := 1) (bs' := 6) (ci := 4) (as := [_]) dX3_put_2 w_402 ok_X3_shelfAt (m_shelfAt_x hR (Nat.le_refl _) (Nat.le_refl _) q2) hR.1 rfl (by omega) (Nat.le_of_ble_eq_true rfl) (by omega) (by omega) (dx_x (swx_out rfl ?_)) (fun v h' n' _ z => dx_k z)
    rw [opPut, onSh_x q2]
    exact ⟨rfl, rfl, hR, FrC.rf⟩
  subst q2
  refine sw_V (M' := MX3_shelfAt) (d' := d - 1) (bc' := 1) (bs' := 6) (ci := 4) (as := [_]) dX3_put_2 w_402 ok_X3_shelfAt (m_shelfAt_k hR (Nat.le_refl _) (Nat.le_refl _) hk2) hR.1 rfl (by omega) (Nat.le_of_ble_eq_true rfl) (by omega) (by omega) (fun E h' n' _ z => det_x z) (det_k ?_)
  refine sw_astore_n (pc' := 6) (lv' := [(3, _), (0, _), (1, _), (2, _)]) rfl dX3_put_5 (by decide +kernel) rfl ?_
  refine sw_iload_n (pc' := 7) rfl dX3_put_6 rfl ?_
  rcases Classical.em (x < 0 ∨ 100 < x) with q7 | q7
  · refine sw_S (M' := MX3_requireThingOrNothing) (d' := d - 1) (bc' := 1) (bs' := 6) (as := [_]) dX3_put_7 w_407 ok_X3_requireThingOrNothing (m_requireThingOrNothing_x (Nat.le_refl _) (Nat.le_refl _) q7) (by omega) (Nat.le_of_ble_eq_true rfl) (by omega) (by omega) (dx_x (swx_out rfl ?_)) (fun v h' n' _ z => dx_k z)
    rw [opPut, onSh_k hk2, if_pos q7]
    exact ⟨rfl, rfl, hR, FrC.rf⟩
  refine sw_S (M' := MX3_requireThingOrNothing) (d' := d - 1) (bc' := 1) (bs' := 6) (as := [_]) dX3_put_7 w_407 ok_X3_requireThingOrNothing (m_requireThingOrNothing_k (Nat.le_refl _) (Nat.le_refl _) q7) (by omega) (Nat.le_of_ble_eq_true rfl) (by omega) (by omega) (fun E h' n' _ z => det_x z) (det_k ?_)
  refine sw_aload_n (pc' := 11) rfl dX3_put_10 rfl ?_
  refine sw_iconst (pc' := 12) (v := 1) rfl dX3_put_11 (by decide +kernel) ?_
  rcases Classical.em (12 < nI (σ.2.1 k2) + 1) with q12 | q12
  · refine sw_S (M' := MX3_requireRoom) (d' := d - 1) (bc' := 1) (bs' := 6) (as := [_, _]) dX3_put_12 w_411 ok_X3_requireRoom (m_requireRoom_x (hR.sh hk2) (Nat.le_refl _) (Nat.le_refl _) q12) (by omega) (Nat.le_of_ble_eq_true rfl) (by omega) (by omega) (dx_x (swx_out rfl ?_)) (fun v h' n' _ z => dx_k z)
    rw [opPut, onSh_k hk2, if_neg q7, if_pos q12]
    exact ⟨rfl, rfl, hR, FrC.rf⟩
  refine sw_S (M' := MX3_requireRoom) (d' := d - 1) (bc' := 1) (bs' := 6) (as := [_, _]) dX3_put_12 w_411 ok_X3_requireRoom (m_requireRoom_k (hR.sh hk2) (Nat.le_refl _) (Nat.le_refl _) q12) (by omega) (Nat.le_of_ble_eq_true rfl) (by omega) (by omega) (fun E h' n' _ z => det_x z) (det_k ?_)
  refine sw_aload_n (pc' := 16) rfl dX3_put_15 rfl ?_
  refine sw_V (M' := MX1_isOfTable) (d' := d - 1) (bc' := 0) (bs' := 0) (ci := 2) (as := []) dX3_put_16 w_430 ok_X1_isOfTable (m_isOfTable (hR.sh hk2) kdO_r) (hR.sh hk2).1 rfl (by omega) (Nat.le_of_ble_eq_true rfl) (by omega) (by omega) (fun E h' n' _ z => det_x z) (det_k ?_)
  refine sw_if_ne (pc' := 22) (tgt := 30) rfl dX3_put_19 (by decide +kernel) (fun c19 => ?_) (fun c19 => ?_)
  · refine sw_aload_n (pc' := 31) rfl dX3_put_30 rfl ?_
    refine sw_V (M' := MX3_refuse) (d' := d - 1) (bc' := 0) (bs' := 0) (ci := 4) (as := []) dX3_put_31 w_439 ok_X3_refuse (m_refuse hR) hR.1 rfl (by omega) (Nat.le_of_ble_eq_true rfl) (by omega) (by omega) (fun E h' n' _ z => cp_x z) (cp_k (fun p31 p31R p31F => ?_))
    refine sw_ret (v := some _) ⟨dX3_put_34, _, rfl, rfl⟩ ?_
    rw [opPut, onSh_k hk2, if_neg q7, if_neg q12, if_pos (Or.inl (of_decide_eq_true (bI_1 c19)))]
    exact ⟨rfl, rfl, p31R, p31F⟩
  · refine sw_aload_n (pc' := 23) rfl dX3_put_22 rfl ?_
    refine sw_iload_n (pc' := 24) rfl dX3_put_23 rfl ?_
    refine sw_V (M' := MX1_takesIn) (d' := d - 1) (bc' := 0) (bs' := 0) (ci := 2) (as := [_]) dX3_put_24 w_435 ok_X1_takesIn (m_takesIn (hR.sh hk2) (hR.kd kdO_r)) (hR.sh hk2).1 rfl (by omega) (Nat.le_of_ble_eq_true rfl) (by omega) (by omega) (fun E h' n' _ z => det_x z) (det_k ?_)
    refine sw_if_ne (pc' := 30) (tgt := 35) rfl dX3_put_27 (by decide +kernel) (fun c27 => ?_) (fun c27 => ?_)
    · refine sw_aload_n (pc' := 36) rfl dX3_put_35 rfl ?_
      refine sw_iload_n (pc' := 37) rfl dX3_put_36 rfl ?_
      have room37 : σ.2.1 k2 < 12 := roomC (hR.sh hk2).2.2.1 q12
      refine sw_V (M' := MX1_layDown) (d' := d - 1) (bc' := 0) (bs' := 0) (ci := 2) (as := [_]) dX3_put_37 w_443 ok_X1_layDown (m_layDown (hR.sh hk2) (hR.kd kdO_r) room37 (by omega)) (hR.sh hk2).1 rfl (by omega) (Nat.le_of_ble_eq_true rfl) (by omega) (by omega) (fun E h' n' _ z => shp_x z) (shp_k (fun p37 p37S p37F => ?_))
      refine sw_S (M' := MX3_oneIf) (d' := d - 1) (bc' := 0) (bs' := 0) (as := [_]) dX3_put_40 w_277 ok_X3_oneIf (m_oneIf) (by omega) (Nat.le_of_ble_eq_true rfl) (by omega) (by omega) (fun E h' n' _ z => det_x z) (det_k ?_)
      refine sw_ret (v := some _) ⟨dX3_put_43, _, rfl, rfl⟩ ?_
      rw [opPut, onSh_k hk2, if_neg q7, if_neg q12, if_neg (fun q => q.elim (of_decide_eq_false (bI_0 c19)) (fun e => Bool.noConfusion ((bI_1 c27).symm.trans e)))]
      exact ⟨rfl, rfl, (hR.ldS hk2 p37S p37F), (p37F.c hk2)⟩
    · refine sw_aload_n (pc' := 31) rfl dX3_put_30 rfl ?_
      refine sw_V (M' := MX3_refuse) (d' := d - 1) (bc' := 0) (bs' := 0) (ci := 4) (as := []) dX3_put_31 w_439 ok_X3_refuse (m_refuse hR) hR.1 rfl (by omega) (Nat.le_of_ble_eq_true rfl) (by omega) (by omega) (fun E h' n' _ z => cp_x z) (cp_k (fun p31 p31R p31F => ?_))
      refine sw_ret (v := some _) ⟨dX3_put_34, _, rfl, rfl⟩ ?_
      rw [opPut, onSh_k hk2, if_neg q7, if_neg q12, if_pos (Or.inr (show tkB k2 x = false from bI_0 c27))]
      exact ⟨rfl, rfl, p31R, p31F⟩
theorem m_skip {h : AH} {σ : CS} {d bc bs n : Nat} {a x : Int32} (hR : RC h σ) (hd : 6 ≤ d) (hb1 : 20 ≤ bc) (hb2 : 200 ≤ bs) : SM SR0 MX3_skip d bc bs [.ref 100, .int a, .int x] h n (CP h n (opSkip σ a x)) := by
  refine sm_of pn_Overwalks rfl (Nat.le_of_ble_eq_true rfl) ?_
  refine sw_aload_n (pc' := 1) rfl dX3_skip_0 rfl ?_
  refine sw_iload_n (pc' := 2) rfl dX3_skip_1 rfl ?_
  rcases idxN 6 (by decide +kernel) a with q2 | ⟨k2, hk2, q2⟩
  · refine sw_V (M' := MX3_walkAt) (d' := d - 1) (bc' := 1) (bs' := 6) (ci := 4) (as := [_]) dX3_skip_2 w_357 ok_X3_walkAt (m_walkAt_x hR (Nat.le_refl _) (Nat.le_refl _) q2) hR.1 rfl (by omega) (Nat.le_of_ble_eq_true rfl) (by omega) (by omega) (dx_x (swx_out rfl ?_)) (fun v h' n' _ z => dx_k z)
    rw [opSkip, onWk_x q2]
    exact ⟨rfl, rfl, hR, FrC.rf⟩
  subst q2
  refine sw_V (M' := MX3_walkAt) (d' := d - 1) (bc' := 1) (bs' := 6) (ci := 4) (as := [_]) dX3_skip_2 w_357 ok_X3_walkAt (m_walkAt_k hR (Nat.le_refl _) (Nat.le_refl _) hk2) hR.1 rfl (by omega) (Nat.le_of_ble_eq_true rfl) (by omega) (by omega) (fun E h' n' _ z => det_x z) (det_k ?_)
  refine sw_astore_n (pc' := 6) (lv' := [(3, _), (0, _), (1, _), (2, _)]) rfl dX3_skip_5 (by decide +kernel) rfl ?_
  refine sw_iload_n (pc' := 7) rfl dX3_skip_6 rfl ?_
  rcases Classical.em (x < 0 ∨ 12 < x) with q7 | q7
  · refine sw_S (M' := MX3_requireUpToRoom) (d' := d - 1) (bc' := 1) (bs' := 6) (as := [_]) dX3_skip_7 w_620 ok_X3_requireUpToRoom (m_requireUpToRoom_x (Nat.le_refl _) (Nat.le_refl _) q7) (by omega) (Nat.le_of_ble_eq_true rfl) (by omega) (by omega) (dx_x (swx_out rfl ?_)) (fun v h' n' _ z => dx_k z)
    rw [opSkip, onWk_k hk2, if_pos q7]
    exact ⟨rfl, rfl, hR, FrC.rf⟩
  refine sw_S (M' := MX3_requireUpToRoom) (d' := d - 1) (bc' := 1) (bs' := 6) (as := [_]) dX3_skip_7 w_620 ok_X3_requireUpToRoom (m_requireUpToRoom_k (Nat.le_refl _) (Nat.le_refl _) q7) (by omega) (Nat.le_of_ble_eq_true rfl) (by omega) (by omega) (fun E h' n' _ z => det_x z) (det_k ?_)
  refine sw_aload_n (pc' := 11) rfl dX3_skip_10 rfl ?_
  rcases Classical.em ((σ.2.2.2.2.1 k2).1 = false) with q11 | q11
  · refine sw_S (M' := MX3_requireMade) (d' := d - 1) (bc' := 1) (bs' := 6) (as := [_]) dX3_skip_11 w_640 ok_X3_requireMade (m_requireMade_x (hR.wk hk2).2 (Nat.le_refl _) (Nat.le_refl _) q11) (by omega) (Nat.le_of_ble_eq_true rfl) (by omega) (by omega) (dx_x (swx_out rfl ?_)) (fun v h' n' _ z => dx_k z)
    rw [opSkip, onWk_k hk2, if_neg q7, if_pos q11]
    exact ⟨rfl, rfl, hR, FrC.rf⟩
  refine sw_S (M' := MX3_requireMade) (d' := d - 1) (bc' := 1) (bs' := 6) (as := [_]) dX3_skip_11 w_640 ok_X3_requireMade (m_requireMade_k (hR.wk hk2).2 (Nat.le_refl _) (Nat.le_refl _) q11) (by omega) (Nat.le_of_ble_eq_true rfl) (by omega) (by omega) (fun E h' n' _ z => det_x z) (det_k ?_)
  refine sw_aload_n (pc' := 15) rfl dX3_skip_14 rfl ?_
  refine sw_V (M' := MX2_isStale) (d' := d - 1) (bc' := 0) (bs' := 0) (ci := 3) (as := []) dX3_skip_15 w_284 ok_X2_isStale (m_isStale (hR.wk hk2).2 (hR.sh (hR.wk hk2).1)) (hR.wk hk2).2.1 rfl (by omega) (Nat.le_of_ble_eq_true rfl) (by omega) (by omega) (fun E h' n' _ z => det_x z) (det_k ?_)
  refine sw_if_eq (pc' := 21) (tgt := 26) rfl dX3_skip_18 (by decide +kernel) (fun c18 => ?_) (fun c18 => ?_)
  · obtain ⟨m, hm, rfl⟩ := nI_of (fun e => q7 (Or.inl e))
    have hm2 : m ≤ 12 := (nI_leI (b := 12) hm (by decide +kernel)).mp (Int32.not_lt.mp (fun e => q7 (Or.inr e)))
    refine sw_aload_n (pc' := 27) rfl dX3_skip_26 rfl ?_
    refine sw_iload_n (pc' := 28) rfl dX3_skip_27 rfl ?_
    have ov28 := (hR.wk hk2).1
    refine sw_V (M' := MX2_giveUpTo) (d' := d - 1) (bc' := 0) (bs' := 0) (ci := 3) (as := [_]) dX3_skip_28 w_221 ok_X2_giveUpTo (m_giveUpTo (hR.wk hk2).2 (hR.sh (hR.wk hk2).1) (by omega) (by omega) (by omega)) (hR.wk hk2).2.1 rfl (by omega) (Nat.le_of_ble_eq_true rfl) (by omega) (by omega) (fun E h' n' _ z => wkp_x z) (wkp_k (fun p28 p28W p28F => ?_))
    refine sw_ret (v := some _) ⟨dX3_skip_31, _, rfl, rfl⟩ ?_
    rw [opSkip, onWk_k hk2, if_neg q7, if_neg q11, if_neg (by rw [show wSt σ k2 = false from bI_0 c18]; decide), nI_clamp (by omega)]
    exact ⟨rfl, rfl, (hR.wU hk2 ⟨(hR.wk hk2).1, p28W⟩ p28F), (p28F.c (by omega) (by omega))⟩
  · refine sw_aload_n (pc' := 22) rfl dX3_skip_21 rfl ?_
    refine sw_V (M' := MX3_refuse) (d' := d - 1) (bc' := 0) (bs' := 0) (ci := 4) (as := []) dX3_skip_22 w_439 ok_X3_refuse (m_refuse hR) hR.1 rfl (by omega) (Nat.le_of_ble_eq_true rfl) (by omega) (by omega) (fun E h' n' _ z => cp_x z) (cp_k (fun p22 p22R p22F => ?_))
    refine sw_ret (v := some _) ⟨dX3_skip_25, _, rfl, rfl⟩ ?_
    rw [opSkip, onWk_k hk2, if_neg q7, if_neg q11, if_pos (bI_1 c18 : wSt σ k2 = true)]
    exact ⟨rfl, rfl, p22R, p22F⟩
theorem m_valueOf {h : AH} {σ : CS} {d bc bs n : Nat} {x : Int32} (hR : RC h σ) (hd : 6 ≤ d) (hb1 : 20 ≤ bc) (hb2 : 200 ≤ bs) : SM SR0 MX3_valueOf d bc bs [.ref 100, .int x] h n (CP h n (opValueOf σ x)) := by
  refine sm_of pn_Overwalks rfl (Nat.le_of_ble_eq_true rfl) ?_
  refine sw_iload_n (pc' := 1) rfl dX3_valueOf_0 rfl ?_
  rcases Classical.em (x < 0 ∨ 100 ≤ x) with q1 | q1
  · refine sw_S (M' := MX3_requireThing) (d' := d - 1) (bc' := 1) (bs' := 6) (as := [_]) dX3_valueOf_1 w_508 ok_X3_requireThing (m_requireThing_x (Nat.le_refl _) (Nat.le_refl _) q1) (by omega) (Nat.le_of_ble_eq_true rfl) (by omega) (by omega) (dx_x (swx_out rfl ?_)) (fun v h' n' _ z => dx_k z)
    rw [opValueOf, if_pos q1]
    exact ⟨rfl, rfl, hR, FrC.rf⟩
  refine sw_S (M' := MX3_requireThing) (d' := d - 1) (bc' := 1) (bs' := 6) (as := [_]) dX3_valueOf_1 w_508 ok_X3_requireThing (m_requireThing_k (Nat.le_refl _) (Nat.le_refl _) q1) (by omega) (Nat.le_of_ble_eq_true rfl) (by omega) (by omega) (fun E h' n' _ z => det_x z) (det_k ?_)
  obtain ⟨g, ga, gb⟩ := hR.2.1
  refine sw_aload_n (pc' := 5) rfl dX3_valueOf_4 rfl ?_
  refine sw_getf (ci := 4) (k := 0) (pc' := 8) rfl dX3_valueOf_5 (by decide +kernel) w_150 hR.1 rfl ?_
  refine sw_bipush (pc' := 10) (v := 6) rfl dX3_valueOf_8 (by decide +kernel) ?_
  refine sw_aald (pc' := 11) rfl dX3_valueOf_10 ga (by decide +kernel) (by decide +kernel) (j := 6) rfl (by decide +kernel) (by decide +kernel) (gb 6 (by decide +kernel)) ?_
  refine sw_iload_n (pc' := 12) rfl dX3_valueOf_11 rfl ?_
  refine sw_V (M' := MX1_firstPlace) (d' := d - 1) (bc' := 0) (bs' := 0) (ci := 2) (as := [_]) dX3_valueOf_12 w_481 ok_X1_firstPlace (m_firstPlace (hR.sh (k := 6) (by decide +kernel))) (hR.sh (k := 6) (by decide +kernel)).1 rfl (by omega) (Nat.le_of_ble_eq_true rfl) (by omega) (by omega) (fun E h' n' _ z => det_x z) (det_k ?_)
  refine sw_istore_n (pc' := 16) (lv' := [(2, _), (0, _), (1, _)]) rfl dX3_valueOf_15 (by decide +kernel) rfl ?_
  refine sw_iload_n (pc' := 17) rfl dX3_valueOf_16 rfl ?_
  refine sw_iconst (pc' := 18) (v := (-1)) rfl dX3_valueOf_17 (by decide +kernel) ?_
  refine sw_icmp_ne (pc' := 21) (tgt := 25) rfl dX3_valueOf_18 (by decide +kernel) (fun c18 => ?_) (fun c18 => ?_)
  · refine sw_aload_n (pc' := 26) rfl dX3_valueOf_25 rfl ?_
    refine sw_getf (ci := 4) (k := 0) (pc' := 29) rfl dX3_valueOf_26 (by decide +kernel) w_150 hR.1 rfl ?_
    refine sw_bipush (pc' := 31) (v := 7) rfl dX3_valueOf_29 (by decide +kernel) ?_
    refine sw_aald (pc' := 32) rfl dX3_valueOf_31 ga (by decide +kernel) (by decide +kernel) (j := 7) rfl (by decide +kernel) (by decide +kernel) (gb 7 (by decide +kernel)) ?_
    refine sw_iload_n (pc' := 33) rfl dX3_valueOf_32 rfl ?_
    refine sw_V (M' := MX1_thingAt) (d' := d - 1) (bc' := 0) (bs' := 0) (ci := 2) (as := [_]) dX3_valueOf_33 w_230 ok_X1_thingAt (m_thingAt (hR.sh (k := 7) (by decide +kernel))) (hR.sh (k := 7) (by decide +kernel)).1 rfl (by omega) (Nat.le_of_ble_eq_true rfl) (by omega) (by omega) (fun E h' n' _ z => det_x z) (det_k ?_)
    refine sw_ret (v := some _) ⟨dX3_valueOf_36, _, rfl, rfl⟩ ?_
    have e1 : ∃ p, fpN (σ.1 6) x 0 (σ.2.1 6) = some p := by
      cases e : fpN (σ.1 6) x 0 (σ.2.1 6) with
      | none => rw [e] at c18; exact absurd rfl c18
      | some p => exact ⟨p, rfl⟩
    obtain ⟨p, e1⟩ := e1
    rw [show opI (fpN (σ.1 6) x 0 (σ.2.1 6)) = nI p from by rw [e1]; rfl]
    rw [opValueOf, if_neg q1, e1]
    exact ⟨rfl, rfl, hR, FrC.rf⟩
  · refine sw_iconst (pc' := 22) (v := (-1)) rfl dX3_valueOf_21 (by decide +kernel) ?_
    refine sw_goto (tgt := 36) dX3_valueOf_22 (by decide +kernel) ?_
    refine sw_ret (v := some _) ⟨dX3_valueOf_36, _, rfl, rfl⟩ ?_
    have hc6 := (hR.sh (k := 6) (by decide +kernel)).2.2.1
    have e1 := opI_n (o := fpN (σ.1 6) x 0 (σ.2.1 6)) (fun j e => by have := fpN_at e; omega) c18
    rw [opValueOf, if_neg q1, e1]
    exact ⟨rfl, rfl, hR, FrC.rf⟩
theorem m_placeOf {h : AH} {σ : CS} {d bc bs n : Nat} {a x y : Int32} (hR : RC h σ) (hd : 6 ≤ d) (hb1 : 20 ≤ bc) (hb2 : 200 ≤ bs) : SM SR0 MX3_placeOf d bc bs [.ref 100, .int a, .int x, .int y] h n (CP h n (opPlaceOf σ a x y)) := by
  refine sm_of pn_Overwalks rfl (Nat.le_of_ble_eq_true rfl) ?_
  refine sw_aload_n (pc' := 1) rfl dX3_placeOf_0 rfl ?_
  refine sw_iload_n (pc' := 2) rfl dX3_placeOf_1 rfl ?_
  rcases idxN 11 (by decide +kernel) a with q2 | ⟨k2, hk2, q2⟩
  · refine sw_V (M' := MX3_rowAt) (d' := d - 1) (bc' := 2) (bs' := 12) (ci := 4) (as := [_]) dX3_placeOf_2 w_541 ok_X3_rowAt (m_rowAt_x hR (Nat.le_refl _) (Nat.le_refl _) (by omega) q2) hR.1 rfl (by omega) (Nat.le_of_ble_eq_true rfl) (by omega) (by omega) (dx_x (swx_out rfl ?_)) (fun v h' n' _ z => dx_k z)
    rw [opPlaceOf, onRw_x q2]
    exact ⟨rfl, rfl, hR, FrC.rf⟩
  subst q2
  rcases Classical.em (kP (kdO k2) = false) with q2 | q2
  · refine sw_V (M' := MX3_rowAt) (d' := d - 1) (bc' := 2) (bs' := 12) (ci := 4) (as := [_]) dX3_placeOf_2 w_541 ok_X3_rowAt (m_rowAt_y hR (Nat.le_refl _) (Nat.le_refl _) (by omega) hk2 q2) hR.1 rfl (by omega) (Nat.le_of_ble_eq_true rfl) (by omega) (by omega) (dx_x (swx_out rfl ?_)) (fun v h' n' _ z => dx_k z)
    rw [opPlaceOf, onRw_y hk2 q2]
    exact ⟨rfl, rfl, hR, FrC.rf⟩
  refine sw_V (M' := MX3_rowAt) (d' := d - 1) (bc' := 2) (bs' := 12) (ci := 4) (as := [_]) dX3_placeOf_2 w_541 ok_X3_rowAt (m_rowAt_k hR (Nat.le_refl _) (Nat.le_refl _) (by omega) hk2 q2) hR.1 rfl (by omega) (Nat.le_of_ble_eq_true rfl) (by omega) (by omega) (fun E h' n' _ z => det_x z) (det_k ?_)
  refine sw_astore (pc' := 7) (lv' := [(4, _), (0, _), (1, _), (2, _), (3, _)]) rfl dX3_placeOf_5 (by decide +kernel) rfl ?_
  refine sw_iload_n (pc' := 8) rfl dX3_placeOf_7 rfl ?_
  rcases Classical.em (x < 0 ∨ 100 < x) with q8 | q8
  · refine sw_S (M' := MX3_requireThingOrNothing) (d' := d - 1) (bc' := 1) (bs' := 6) (as := [_]) dX3_placeOf_8 w_407 ok_X3_requireThingOrNothing (m_requireThingOrNothing_x (Nat.le_refl _) (Nat.le_refl _) q8) (by omega) (Nat.le_of_ble_eq_true rfl) (by omega) (by omega) (dx_x (swx_out rfl ?_)) (fun v h' n' _ z => dx_k z)
    rw [opPlaceOf, onRw_k hk2 q2, if_pos q8]
    exact ⟨rfl, rfl, hR, FrC.rf⟩
  refine sw_S (M' := MX3_requireThingOrNothing) (d' := d - 1) (bc' := 1) (bs' := 6) (as := [_]) dX3_placeOf_8 w_407 ok_X3_requireThingOrNothing (m_requireThingOrNothing_k (Nat.le_refl _) (Nat.le_refl _) q8) (by omega) (Nat.le_of_ble_eq_true rfl) (by omega) (by omega) (fun E h' n' _ z => det_x z) (det_k ?_)
  refine sw_iload_n (pc' := 12) rfl dX3_placeOf_11 rfl ?_
  refine sw_if_eq (pc' := 15) (tgt := 24) rfl dX3_placeOf_12 (by decide +kernel) (fun c12 => ?_) (fun c12 => ?_)
  · refine sw_aload (pc' := 26) rfl dX3_placeOf_24 rfl ?_
    refine sw_iload_n (pc' := 27) rfl dX3_placeOf_26 rfl ?_
    refine sw_V (M' := MX1_firstPlace) (d' := d - 1) (bc' := 0) (bs' := 0) (ci := 2) (as := [_]) dX3_placeOf_27 w_481 ok_X1_firstPlace (m_firstPlace (hR.sh hk2)) (hR.sh hk2).1 rfl (by omega) (Nat.le_of_ble_eq_true rfl) (by omega) (by omega) (fun E h' n' _ z => det_x z) (det_k ?_)
    refine sw_ret (v := some _) ⟨dX3_placeOf_30, _, rfl, rfl⟩ ?_
    rw [opPlaceOf, onRw_k hk2 q2, if_neg q8, if_pos c12]
    exact ⟨rfl, rfl, hR, FrC.rf⟩
  · refine sw_aload (pc' := 17) rfl dX3_placeOf_15 rfl ?_
    refine sw_iload_n (pc' := 18) rfl dX3_placeOf_17 rfl ?_
    refine sw_V (M' := MX1_lastPlace) (d' := d - 1) (bc' := 0) (bs' := 0) (ci := 2) (as := [_]) dX3_placeOf_18 w_1049 ok_X1_lastPlace (m_lastPlace (hR.sh hk2)) (hR.sh hk2).1 rfl (by omega) (Nat.le_of_ble_eq_true rfl) (by omega) (by omega) (fun E h' n' _ z => det_x z) (det_k ?_)
    refine sw_goto (tgt := 30) dX3_placeOf_21 (by decide +kernel) ?_
    refine sw_ret (v := some _) ⟨dX3_placeOf_30, _, rfl, rfl⟩ ?_
    rw [opPlaceOf, onRw_k hk2 q2, if_neg q8, if_neg c12]
    exact ⟨rfl, rfl, hR, FrC.rf⟩
theorem m_change {h : AH} {σ : CS} {d bc bs n : Nat} {a p x : Int32} (hR : RC h σ) (hd : 6 ≤ d) (hb1 : 20 ≤ bc) (hb2 : 200 ≤ bs) : SM SR0 MX3_change d bc bs [.ref 100, .int a, .int p, .int x] h n (CP h n (opChange σ a p x)) := by
  refine sm_of pn_Overwalks rfl (Nat.le_of_ble_eq_true rfl) ?_
  refine sw_aload_n (pc' := 1) rfl dX3_change_0 rfl ?_
  refine sw_iload_n (pc' := 2) rfl dX3_change_1 rfl ?_
  rcases idxN 11 (by decide +kernel) a with q2 | ⟨k2, hk2, q2⟩
  · refine sw_V (M' := MX3_rowAt) (d' := d - 1) (bc' := 2) (bs' := 12) (ci := 4) (as := [_]) dX3_change_2 w_541 ok_X3_rowAt (m_rowAt_x hR (Nat.le_refl _) (Nat.le_refl _) (by omega) q2) hR.1 rfl (by omega) (Nat.le_of_ble_eq_true rfl) (by omega) (by omega) (dx_x (swx_out rfl ?_)) (fun v h' n' _ z => dx_k z)
    rw [opChange, onRw_x q2]
    exact ⟨rfl, rfl, hR, FrC.rf⟩
  subst q2
  rcases Classical.em (kP (kdO k2) = false) with q2 | q2
  · refine sw_V (M' := MX3_rowAt) (d' := d - 1) (bc' := 2) (bs' := 12) (ci := 4) (as := [_]) dX3_change_2 w_541 ok_X3_rowAt (m_rowAt_y hR (Nat.le_refl _) (Nat.le_refl _) (by omega) hk2 q2) hR.1 rfl (by omega) (Nat.le_of_ble_eq_true rfl) (by omega) (by omega) (dx_x (swx_out rfl ?_)) (fun v h' n' _ z => dx_k z)
    rw [opChange, onRw_y hk2 q2]
    exact ⟨rfl, rfl, hR, FrC.rf⟩
  refine sw_V (M' := MX3_rowAt) (d' := d - 1) (bc' := 2) (bs' := 12) (ci := 4) (as := [_]) dX3_change_2 w_541 ok_X3_rowAt (m_rowAt_k hR (Nat.le_refl _) (Nat.le_refl _) (by omega) hk2 q2) hR.1 rfl (by omega) (Nat.le_of_ble_eq_true rfl) (by omega) (by omega) (fun E h' n' _ z => det_x z) (det_k ?_)
  refine sw_astore (pc' := 7) (lv' := [(4, _), (0, _), (1, _), (2, _), (3, _)]) rfl dX3_change_5 (by decide +kernel) rfl ?_
  refine sw_iload_n (pc' := 8) rfl dX3_change_7 rfl ?_
  refine sw_aload (pc' := 10) rfl dX3_change_8 rfl ?_
  refine sw_getf (ci := 2) (k := 2) (pc' := 13) rfl dX3_change_10 (by decide +kernel) w_84 (hR.sh hk2).1 rfl ?_
  rcases Classical.em (p < 0 ∨ nI (σ.2.1 k2) ≤ p) with q13 | q13
  · refine sw_S (M' := MX3_requirePlace) (d' := d - 1) (bc' := 1) (bs' := 6) (as := [_, _]) dX3_change_13 w_546 ok_X3_requirePlace (m_requirePlace_x (Nat.le_refl _) (Nat.le_refl _) q13) (by omega) (Nat.le_of_ble_eq_true rfl) (by omega) (by omega) (dx_x (swx_out rfl ?_)) (fun v h' n' _ z => dx_k z)
    rw [opChange, onRw_k hk2 q2, if_pos q13]
    exact ⟨rfl, rfl, hR, FrC.rf⟩
  refine sw_S (M' := MX3_requirePlace) (d' := d - 1) (bc' := 1) (bs' := 6) (as := [_, _]) dX3_change_13 w_546 ok_X3_requirePlace (m_requirePlace_k (Nat.le_refl _) (Nat.le_refl _) q13) (by omega) (Nat.le_of_ble_eq_true rfl) (by omega) (by omega) (fun E h' n' _ z => det_x z) (det_k ?_)
  refine sw_iload_n (pc' := 17) rfl dX3_change_16 rfl ?_
  rcases Classical.em (x < 0 ∨ 100 < x) with q17 | q17
  · refine sw_S (M' := MX3_requireThingOrNothing) (d' := d - 1) (bc' := 1) (bs' := 6) (as := [_]) dX3_change_17 w_407 ok_X3_requireThingOrNothing (m_requireThingOrNothing_x (Nat.le_refl _) (Nat.le_refl _) q17) (by omega) (Nat.le_of_ble_eq_true rfl) (by omega) (by omega) (dx_x (swx_out rfl ?_)) (fun v h' n' _ z => dx_k z)
    rw [opChange, onRw_k hk2 q2, if_neg q13, if_pos q17]
    exact ⟨rfl, rfl, hR, FrC.rf⟩
  refine sw_S (M' := MX3_requireThingOrNothing) (d' := d - 1) (bc' := 1) (bs' := 6) (as := [_]) dX3_change_17 w_407 ok_X3_requireThingOrNothing (m_requireThingOrNothing_k (Nat.le_refl _) (Nat.le_refl _) q17) (by omega) (Nat.le_of_ble_eq_true rfl) (by omega) (by omega) (fun E h' n' _ z => det_x z) (det_k ?_)
  obtain ⟨j, hj, ej⟩ := nI_of (fun e => q13 (Or.inl e))
  have hc := (hR.sh hk2).2.2.1
  have hjc : j < σ.2.1 k2 := plc (by omega) hj ej q13
  subst ej
  refine sw_aload (pc' := 22) rfl dX3_change_20 rfl ?_
  refine sw_dup (pc' := 23) rfl dX3_change_22 rfl ?_
  refine sw_getf (ci := 2) (k := 4) (pc' := 26) rfl dX3_change_23 (by decide +kernel) w_89 (hR.sh hk2).1 rfl ?_
  refine sw_iconst (pc' := 27) (v := 1) rfl dX3_change_26 (by decide +kernel) ?_
  refine sw_iadd (pc' := 28) rfl dX3_change_27 ?_
  refine sw_putf (ci := 2) (k := 4) (pc' := 31) rfl dX3_change_28 (by decide +kernel) (by decide +kernel) w_89 rfl (hR.sh hk2).1 (hR.sh hk2).2.2.2 (Nat.le_of_ble_eq_true rfl) rfl rfl ?_
  refine sw_nm (fun g1 eg1 => ?_)
  have zk2 := (congrFun eg1 _).trans (up_s (h := h) (i := (102 + 2 * k2)))
  have zk3 := ((congrFun eg1 100).trans (up_n (h := h) (by omega))).trans hR.1
  have zk4 := ((congrFun eg1 ((102 + 2 * k2) + 1)).trans (up_n (h := h) (by omega))).trans (hR.sh hk2).2.1
  refine sw_aload (pc' := 33) rfl dX3_change_31 rfl ?_
  refine sw_iload_n (pc' := 34) rfl dX3_change_33 rfl ?_
  refine sw_iload_n (pc' := 35) rfl dX3_change_34 rfl ?_
  refine sw_V (M' := MX1_exchange) (d' := d - 1) (bc' := 0) (bs' := 0) (ci := 2) (as := [_, _]) dX3_change_35 w_512 ok_X1_exchange (m_exchange (j := j) (show ShF g1 (102 + 2 * k2) (kdO k2) (σ.1 k2) (σ.2.1 k2) (σ.2.2.1 k2) (σ.2.2.2.1 k2 + 1) from ⟨zk2, zk4, (hR.sh hk2).2.2⟩) hjc) (show ShF g1 (102 + 2 * k2) (kdO k2) (σ.1 k2) (σ.2.1 k2) (σ.2.2.1 k2) (σ.2.2.2.1 k2 + 1) from ⟨zk2, zk4, (hR.sh hk2).2.2⟩).1 rfl (by omega) (Nat.le_of_ble_eq_true rfl) (by omega) (by omega) (fun E h' n' _ z => shp_x z) (shp_k (fun p35 p35S p35F => ?_))
  refine sw_ret (v := some _) ⟨dX3_change_38, _, rfl, rfl⟩ ?_
  rw [opChange, onRw_k hk2 q2, if_neg q13, if_neg q17, nI_clamp hj]
  exact ⟨rfl, rfl, (hR.sU hk2 p35S ((show FrS h g1 (102 + 2 * k2) from (fun i h1 h2 => (congrFun eg1 i).trans ((up_n h1).trans (rfl)))).tr p35F)), (((show FrS h g1 (102 + 2 * k2) from (fun i h1 h2 => (congrFun eg1 i).trans ((up_n h1).trans (rfl)))).tr p35F).c hk2)⟩
theorem m_turn {h : AH} {σ : CS} {d bc bs n : Nat} {a : Int32} (hR : RC h σ) (hd : 6 ≤ d) (hb1 : 20 ≤ bc) (hb2 : 200 ≤ bs) : SM SR0 MX3_turn d bc bs [.ref 100, .int a] h n (CP h n (opTurn σ a)) := by
  refine sm_of pn_Overwalks rfl (Nat.le_of_ble_eq_true rfl) ?_
  refine sw_aload_n (pc' := 1) rfl dX3_turn_0 rfl ?_
  refine sw_iload_n (pc' := 2) rfl dX3_turn_1 rfl ?_
  rcases idxN 11 (by decide +kernel) a with q2 | ⟨k2, hk2, q2⟩
  · refine sw_V (M' := MX3_rowAt) (d' := d - 1) (bc' := 2) (bs' := 12) (ci := 4) (as := [_]) dX3_turn_2 w_541 ok_X3_rowAt (m_rowAt_x hR (Nat.le_refl _) (Nat.le_refl _) (by omega) q2) hR.1 rfl (by omega) (Nat.le_of_ble_eq_true rfl) (by omega) (by omega) (dx_x (swx_out rfl ?_)) (fun v h' n' _ z => dx_k z)
    rw [opTurn, onRw_x q2]
    exact ⟨rfl, rfl, hR, FrC.rf⟩
  subst q2
  rcases Classical.em (kP (kdO k2) = false) with q2 | q2
  · refine sw_V (M' := MX3_rowAt) (d' := d - 1) (bc' := 2) (bs' := 12) (ci := 4) (as := [_]) dX3_turn_2 w_541 ok_X3_rowAt (m_rowAt_y hR (Nat.le_refl _) (Nat.le_refl _) (by omega) hk2 q2) hR.1 rfl (by omega) (Nat.le_of_ble_eq_true rfl) (by omega) (by omega) (dx_x (swx_out rfl ?_)) (fun v h' n' _ z => dx_k z)
    rw [opTurn, onRw_y hk2 q2]
    exact ⟨rfl, rfl, hR, FrC.rf⟩
  refine sw_V (M' := MX3_rowAt) (d' := d - 1) (bc' := 2) (bs' := 12) (ci := 4) (as := [_]) dX3_turn_2 w_541 ok_X3_rowAt (m_rowAt_k hR (Nat.le_refl _) (Nat.le_refl _) (by omega) hk2 q2) hR.1 rfl (by omega) (Nat.le_of_ble_eq_true rfl) (by omega) (by omega) (fun E h' n' _ z => det_x z) (det_k ?_)
  refine sw_astore_n (pc' := 6) (lv' := [(2, _), (0, _), (1, _)]) rfl dX3_turn_5 (by decide +kernel) rfl ?_
  refine sw_aload_n (pc' := 7) rfl dX3_turn_6 rfl ?_
  refine sw_dup (pc' := 8) rfl dX3_turn_7 rfl ?_
  refine sw_getf (ci := 2) (k := 4) (pc' := 11) rfl dX3_turn_8 (by decide +kernel) w_89 (hR.sh hk2).1 rfl ?_
  refine sw_iconst (pc' := 12) (v := 1) rfl dX3_turn_11 (by decide +kernel) ?_
  refine sw_iadd (pc' := 13) rfl dX3_turn_12 ?_
  refine sw_putf (ci := 2) (k := 4) (pc' := 16) rfl dX3_turn_13 (by decide +kernel) (by decide +kernel) w_89 rfl (hR.sh hk2).1 (hR.sh hk2).2.2.2 (Nat.le_of_ble_eq_true rfl) rfl rfl ?_
  refine sw_nm (fun g1 eg1 => ?_)
  have zk2 := (congrFun eg1 _).trans (up_s (h := h) (i := (102 + 2 * k2)))
  have zk3 := ((congrFun eg1 100).trans (up_n (h := h) (by omega))).trans hR.1
  have zk4 := ((congrFun eg1 ((102 + 2 * k2) + 1)).trans (up_n (h := h) (by omega))).trans (hR.sh hk2).2.1
  refine sw_aload_n (pc' := 17) rfl dX3_turn_16 rfl ?_
  refine sw_iconst (pc' := 18) (v := 0) rfl dX3_turn_17 (by decide +kernel) ?_
  refine sw_aload_n (pc' := 19) rfl dX3_turn_18 rfl ?_
  refine sw_getf (ci := 2) (k := 2) (pc' := 22) rfl dX3_turn_19 (by decide +kernel) w_84 zk2 rfl ?_
  refine sw_V (M' := MX1_reverse) (d' := d - 1) (bc' := 0) (bs' := 0) (ci := 2) (as := [_, _]) dX3_turn_22 w_571 ok_X1_reverse (m_reverse (a := 0) (m := σ.2.1 k2) (show ShF g1 (102 + 2 * k2) (kdO k2) (σ.1 k2) (σ.2.1 k2) (σ.2.2.1 k2) (σ.2.2.2.1 k2 + 1) from ⟨zk2, zk4, (hR.sh hk2).2.2⟩) (by omega) (by omega) rfl (by rw [Nat.zero_add])) (show ShF g1 (102 + 2 * k2) (kdO k2) (σ.1 k2) (σ.2.1 k2) (σ.2.2.1 k2) (σ.2.2.2.1 k2 + 1) from ⟨zk2, zk4, (hR.sh hk2).2.2⟩).1 rfl (by omega) (Nat.le_of_ble_eq_true rfl) (by omega) (by omega) (fun E h' n' _ z => shp_x z) (shp_k (fun p22 p22S p22F => ?_))
  refine sw_aload_n (pc' := 26) rfl dX3_turn_25 rfl ?_
  refine sw_getf (ci := 2) (k := 2) (pc' := 29) rfl dX3_turn_26 (by decide +kernel) w_84 p22S.1 rfl ?_
  refine sw_ret (v := some _) ⟨dX3_turn_29, _, rfl, rfl⟩ ?_
  rw [opTurn, onRw_k hk2 q2]
  exact ⟨rfl, rfl, (hR.sU hk2 p22S ((show FrS h g1 (102 + 2 * k2) from (fun i h1 h2 => (congrFun eg1 i).trans ((up_n h1).trans (rfl)))).tr p22F)), (((show FrS h g1 (102 + 2 * k2) from (fun i h1 h2 => (congrFun eg1 i).trans ((up_n h1).trans (rfl)))).tr p22F).c hk2)⟩
theorem m_insert {h : AH} {σ : CS} {d bc bs n : Nat} {a p x : Int32} (hR : RC h σ) (hd : 6 ≤ d) (hb1 : 20 ≤ bc) (hb2 : 200 ≤ bs) : SM SR0 MX3_insert d bc bs [.ref 100, .int a, .int p, .int x] h n (CP h n (opInsert σ a p x)) := by
  refine sm_of pn_Overwalks rfl (Nat.le_of_ble_eq_true rfl) ?_
  refine sw_aload_n (pc' := 1) rfl dX3_insert_0 rfl ?_
  refine sw_iload_n (pc' := 2) rfl dX3_insert_1 rfl ?_
  rcases idxN 11 (by decide +kernel) a with q2 | ⟨k2, hk2, q2⟩
  · refine sw_V (M' := MX3_rowAt) (d' := d - 1) (bc' := 2) (bs' := 12) (ci := 4) (as := [_]) dX3_insert_2 w_541 ok_X3_rowAt (m_rowAt_x hR (Nat.le_refl _) (Nat.le_refl _) (by omega) q2) hR.1 rfl (by omega) (Nat.le_of_ble_eq_true rfl) (by omega) (by omega) (dx_x (swx_out rfl ?_)) (fun v h' n' _ z => dx_k z)
    rw [opInsert, onRw_x q2]
    exact ⟨rfl, rfl, hR, FrC.rf⟩
  subst q2
  rcases Classical.em (kP (kdO k2) = false) with q2 | q2
  · refine sw_V (M' := MX3_rowAt) (d' := d - 1) (bc' := 2) (bs' := 12) (ci := 4) (as := [_]) dX3_insert_2 w_541 ok_X3_rowAt (m_rowAt_y hR (Nat.le_refl _) (Nat.le_refl _) (by omega) hk2 q2) hR.1 rfl (by omega) (Nat.le_of_ble_eq_true rfl) (by omega) (by omega) (dx_x (swx_out rfl ?_)) (fun v h' n' _ z => dx_k z)
    rw [opInsert, onRw_y hk2 q2]
    exact ⟨rfl, rfl, hR, FrC.rf⟩
  refine sw_V (M' := MX3_rowAt) (d' := d - 1) (bc' := 2) (bs' := 12) (ci := 4) (as := [_]) dX3_insert_2 w_541 ok_X3_rowAt (m_rowAt_k hR (Nat.le_refl _) (Nat.le_refl _) (by omega) hk2 q2) hR.1 rfl (by omega) (Nat.le_of_ble_eq_true rfl) (by omega) (by omega) (fun E h' n' _ z => det_x z) (det_k ?_)
  refine sw_astore (pc' := 7) (lv' := [(4, _), (0, _), (1, _), (2, _), (3, _)]) rfl dX3_insert_5 (by decide +kernel) rfl ?_
  refine sw_iload_n (pc' := 8) rfl dX3_insert_7 rfl ?_
  refine sw_aload (pc' := 10) rfl dX3_insert_8 rfl ?_
  refine sw_getf (ci := 2) (k := 2) (pc' := 13) rfl dX3_insert_10 (by decide +kernel) w_84 (hR.sh hk2).1 rfl ?_
  refine sw_iconst (pc' := 14) (v := 1) rfl dX3_insert_13 (by decide +kernel) ?_
  refine sw_iadd (pc' := 15) rfl dX3_insert_14 ?_
  rcases Classical.em (p < 0 ∨ (nI (σ.2.1 k2) + 1) ≤ p) with q15 | q15
  · refine sw_S (M' := MX3_requirePlace) (d' := d - 1) (bc' := 1) (bs' := 6) (as := [_, _]) dX3_insert_15 w_546 ok_X3_requirePlace (m_requirePlace_x (Nat.le_refl _) (Nat.le_refl _) q15) (by omega) (Nat.le_of_ble_eq_true rfl) (by omega) (by omega) (dx_x (swx_out rfl ?_)) (fun v h' n' _ z => dx_k z)
    rw [opInsert, onRw_k hk2 q2, if_pos q15]
    exact ⟨rfl, rfl, hR, FrC.rf⟩
  refine sw_S (M' := MX3_requirePlace) (d' := d - 1) (bc' := 1) (bs' := 6) (as := [_, _]) dX3_insert_15 w_546 ok_X3_requirePlace (m_requirePlace_k (Nat.le_refl _) (Nat.le_refl _) q15) (by omega) (Nat.le_of_ble_eq_true rfl) (by omega) (by omega) (fun E h' n' _ z => det_x z) (det_k ?_)
  refine sw_iload_n (pc' := 19) rfl dX3_insert_18 rfl ?_
  rcases Classical.em (x < 0 ∨ 100 < x) with q19 | q19
  · refine sw_S (M' := MX3_requireThingOrNothing) (d' := d - 1) (bc' := 1) (bs' := 6) (as := [_]) dX3_insert_19 w_407 ok_X3_requireThingOrNothing (m_requireThingOrNothing_x (Nat.le_refl _) (Nat.le_refl _) q19) (by omega) (Nat.le_of_ble_eq_true rfl) (by omega) (by omega) (dx_x (swx_out rfl ?_)) (fun v h' n' _ z => dx_k z)
    rw [opInsert, onRw_k hk2 q2, if_neg q15, if_pos q19]
    exact ⟨rfl, rfl, hR, FrC.rf⟩
  refine sw_S (M' := MX3_requireThingOrNothing) (d' := d - 1) (bc' := 1) (bs' := 6) (as := [_]) dX3_insert_19 w_407 ok_X3_requireThingOrNothing (m_requireThingOrNothing_k (Nat.le_refl _) (Nat.le_refl _) q19) (by omega) (Nat.le_of_ble_eq_true rfl) (by omega) (by omega) (fun E h' n' _ z => det_x z) (det_k ?_)
  refine sw_aload (pc' := 24) rfl dX3_insert_22 rfl ?_
  refine sw_iconst (pc' := 25) (v := 1) rfl dX3_insert_24 (by decide +kernel) ?_
  rcases Classical.em (12 < nI (σ.2.1 k2) + 1) with q25 | q25
  · refine sw_S (M' := MX3_requireRoom) (d' := d - 1) (bc' := 1) (bs' := 6) (as := [_, _]) dX3_insert_25 w_411 ok_X3_requireRoom (m_requireRoom_x (hR.sh hk2) (Nat.le_refl _) (Nat.le_refl _) q25) (by omega) (Nat.le_of_ble_eq_true rfl) (by omega) (by omega) (dx_x (swx_out rfl ?_)) (fun v h' n' _ z => dx_k z)
    rw [opInsert, onRw_k hk2 q2, if_neg q15, if_neg q19, if_pos q25]
    exact ⟨rfl, rfl, hR, FrC.rf⟩
  refine sw_S (M' := MX3_requireRoom) (d' := d - 1) (bc' := 1) (bs' := 6) (as := [_, _]) dX3_insert_25 w_411 ok_X3_requireRoom (m_requireRoom_k (hR.sh hk2) (Nat.le_refl _) (Nat.le_refl _) q25) (by omega) (Nat.le_of_ble_eq_true rfl) (by omega) (by omega) (fun E h' n' _ z => det_x z) (det_k ?_)
  obtain ⟨j, hj, ej⟩ := nI_of (fun e => q15 (Or.inl e))
  have hc := (hR.sh hk2).2.2.1
  have hc12 := roomC hc q25
  have hjc : j < σ.2.1 k2 + 1 := plc (by omega) hj ej (by rw [nI_succ]; exact q15)
  subst ej
  refine sw_aload (pc' := 30) rfl dX3_insert_28 rfl ?_
  refine sw_iload_n (pc' := 31) rfl dX3_insert_30 rfl ?_
  refine sw_iload_n (pc' := 32) rfl dX3_insert_31 rfl ?_
  refine sw_V (M' := MX1_layAhead) (d' := d - 1) (bc' := 0) (bs' := 0) (ci := 2) (as := [_, _]) dX3_insert_32 w_235 ok_X1_layAhead (m_layAhead (j := j) (hR.sh hk2) (by omega) hc12) (hR.sh hk2).1 rfl (by omega) (Nat.le_of_ble_eq_true rfl) (by omega) (by omega) (fun E h' n' _ z => shp_x z) (shp_k (fun p32 p32S p32F => ?_))
  refine sw_pop (pc' := 36) rfl dX3_insert_35 rfl ?_
  refine sw_aload (pc' := 38) rfl dX3_insert_36 rfl ?_
  refine sw_getf (ci := 2) (k := 2) (pc' := 41) rfl dX3_insert_38 (by decide +kernel) w_84 p32S.1 rfl ?_
  refine sw_ret (v := some _) ⟨dX3_insert_41, _, rfl, rfl⟩ ?_
  rw [opInsert, onRw_k hk2 q2, if_neg q15, if_neg q19, if_neg q25, nI_clamp hj]
  exact ⟨rfl, rfl, (hR.sU hk2 p32S (FrS.rf.tr p32F)), ((FrS.rf.tr p32F).c hk2)⟩
theorem m_remove {h : AH} {σ : CS} {d bc bs n : Nat} {a p : Int32} (hR : RC h σ) (hd : 6 ≤ d) (hb1 : 20 ≤ bc) (hb2 : 200 ≤ bs) : SM SR0 MX3_remove d bc bs [.ref 100, .int a, .int p] h n (CP h n (opRemove σ a p)) := by
  refine sm_of pn_Overwalks rfl (Nat.le_of_ble_eq_true rfl) ?_
  refine sw_aload_n (pc' := 1) rfl dX3_remove_0 rfl ?_
  refine sw_iload_n (pc' := 2) rfl dX3_remove_1 rfl ?_
  rcases idxN 11 (by decide +kernel) a with q2 | ⟨k2, hk2, q2⟩
  · refine sw_V (M' := MX3_rowAt) (d' := d - 1) (bc' := 2) (bs' := 12) (ci := 4) (as := [_]) dX3_remove_2 w_541 ok_X3_rowAt (m_rowAt_x hR (Nat.le_refl _) (Nat.le_refl _) (by omega) q2) hR.1 rfl (by omega) (Nat.le_of_ble_eq_true rfl) (by omega) (by omega) (dx_x (swx_out rfl ?_)) (fun v h' n' _ z => dx_k z)
    rw [opRemove, onRw_x q2]
    exact ⟨rfl, rfl, hR, FrC.rf⟩
  subst q2
  rcases Classical.em (kP (kdO k2) = false) with q2 | q2
  · refine sw_V (M' := MX3_rowAt) (d' := d - 1) (bc' := 2) (bs' := 12) (ci := 4) (as := [_]) dX3_remove_2 w_541 ok_X3_rowAt (m_rowAt_y hR (Nat.le_refl _) (Nat.le_refl _) (by omega) hk2 q2) hR.1 rfl (by omega) (Nat.le_of_ble_eq_true rfl) (by omega) (by omega) (dx_x (swx_out rfl ?_)) (fun v h' n' _ z => dx_k z)
    rw [opRemove, onRw_y hk2 q2]
    exact ⟨rfl, rfl, hR, FrC.rf⟩
  refine sw_V (M' := MX3_rowAt) (d' := d - 1) (bc' := 2) (bs' := 12) (ci := 4) (as := [_]) dX3_remove_2 w_541 ok_X3_rowAt (m_rowAt_k hR (Nat.le_refl _) (Nat.le_refl _) (by omega) hk2 q2) hR.1 rfl (by omega) (Nat.le_of_ble_eq_true rfl) (by omega) (by omega) (fun E h' n' _ z => det_x z) (det_k ?_)
  refine sw_astore_n (pc' := 6) (lv' := [(3, _), (0, _), (1, _), (2, _)]) rfl dX3_remove_5 (by decide +kernel) rfl ?_
  refine sw_iload_n (pc' := 7) rfl dX3_remove_6 rfl ?_
  refine sw_aload_n (pc' := 8) rfl dX3_remove_7 rfl ?_
  refine sw_getf (ci := 2) (k := 2) (pc' := 11) rfl dX3_remove_8 (by decide +kernel) w_84 (hR.sh hk2).1 rfl ?_
  rcases Classical.em (p < 0 ∨ nI (σ.2.1 k2) ≤ p) with q11 | q11
  · refine sw_S (M' := MX3_requirePlace) (d' := d - 1) (bc' := 1) (bs' := 6) (as := [_, _]) dX3_remove_11 w_546 ok_X3_requirePlace (m_requirePlace_x (Nat.le_refl _) (Nat.le_refl _) q11) (by omega) (Nat.le_of_ble_eq_true rfl) (by omega) (by omega) (dx_x (swx_out rfl ?_)) (fun v h' n' _ z => dx_k z)
    rw [opRemove, onRw_k hk2 q2, if_pos q11]
    exact ⟨rfl, rfl, hR, FrC.rf⟩
  refine sw_S (M' := MX3_requirePlace) (d' := d - 1) (bc' := 1) (bs' := 6) (as := [_, _]) dX3_remove_11 w_546 ok_X3_requirePlace (m_requirePlace_k (Nat.le_refl _) (Nat.le_refl _) q11) (by omega) (Nat.le_of_ble_eq_true rfl) (by omega) (by omega) (fun E h' n' _ z => det_x z) (det_k ?_)
  obtain ⟨j, hj, ej⟩ := nI_of (fun e => q11 (Or.inl e))
  have hc := (hR.sh hk2).2.2.1
  have hjc : j < σ.2.1 k2 := plc (by omega) hj ej q11
  have hS9 : ShF h (102 + 2 * k2) (kdO k2) (σ.1 k2) (σ.2.1 k2 - 1 + 1) (σ.2.2.1 k2) (σ.2.2.2.1 k2) := by
    rw [Nat.sub_add_cancel (by omega)]
    exact hR.sh hk2
  subst ej
  refine sw_aload_n (pc' := 15) rfl dX3_remove_14 rfl ?_
  refine sw_iload_n (pc' := 16) rfl dX3_remove_15 rfl ?_
  refine sw_V (M' := MX1_lift) (d' := d - 1) (bc' := 0) (bs' := 0) (ci := 2) (as := [_]) dX3_remove_16 w_486 ok_X1_lift (m_lift (j := j) hS9 (by omega)) (hR.sh hk2).1 rfl (by omega) (Nat.le_of_ble_eq_true rfl) (by omega) (by omega) (fun E h' n' _ z => shp_x z) (shp_k (fun p16 p16S p16F => ?_))
  refine sw_ret (v := some _) ⟨dX3_remove_19, _, rfl, rfl⟩ ?_
  rw [opRemove, onRw_k hk2 q2, if_neg q11, nI_clamp hj]
  exact ⟨rfl, rfl, (hR.sU hk2 p16S (FrS.rf.tr p16F)), ((FrS.rf.tr p16F).c hk2)⟩
