/-! takeOut -/
/-- a made WALK that is not stale stands on a PLACE of its SHELF -/
def WI (σ : CS) (k : Nat) : Prop := (σ.2.2.2.2.1 k).1 = true → wSt σ k = false → ∃ A : Nat, wAh σ k = nI A ∧ A ≤ σ.2.1 (wO σ k) ∧ ((σ.2.2.2.2.1 k).2.2.2.2.2.2.2 = true → 1 ≤ A)
theorem liU_w {σ : CS} {k j : Nat} : (liU σ k j).2.2.2.2 = σ.2.2.2.2 := by
  unfold liU
  split <;> rfl
def toU (σ : CS) (k : Nat) (τ : CS) : CS := wU τ k ((σ.2.2.2.2.1 k).1, wO σ k, (σ.2.2.2.2.1 k).2.2.1, (σ.2.2.2.2.1 k).2.2.2.1, (σ.2.2.2.2.1 k).2.2.2.2.1 + 1, τ.2.2.1 (wO σ k), (σ.2.2.2.2.1 k).2.2.2.2.2.2.1, false)
def wCt (σ : CS) (k : Nat) : Bool := (σ.2.2.2.2.1 k).2.2.2.2.2.2.2 && decide (σ.2.2.2.1 (wO σ k) = (σ.2.2.2.2.1 k).2.2.2.2.2.2.1)
def opTakeOut (σ : CS) (a : Int32) : ARes × CS := onWk a σ (fun k => if (σ.2.2.2.2.1 k).1 = false then (xS, σ) else if wSt σ k = true ∨ ¬ (σ.2.2.2.2.1 k).2.2.1 = 1 ∨ nI (wO σ k) = 7 ∨ wCt σ k = false then (rI (-9), rfU σ) else
  (rI (nI ((liU σ (wO σ k) ((wAh σ k).toNatClampNeg - 1)).2.1 (wO σ k))), toU σ k (liU σ (wO σ k) ((wAh σ k).toNatClampNeg - 1))))
theorem m_takeOut {h : AH} {σ : CS} {d bc bs n : Nat} {a : Int32} (hR : RC h σ) (hd : 6 ≤ d) (hb1 : 20 ≤ bc) (hb2 : 200 ≤ bs) (hT : σ.2.1 6 = σ.2.1 7) (hV : ∀ k, k < 6 → WI σ k) : SM SR0 MX3_takeOut d bc bs [.ref 100, .int a] h n (CP h n (opTakeOut σ a)) := by
  refine sm_of pn_Overwalks rfl (Nat.le_of_ble_eq_true rfl) ?_
  refine sw_aload_n (pc' := 1) rfl dX3_takeOut_0 rfl ?_
  refine sw_iload_n (pc' := 2) rfl dX3_takeOut_1 rfl ?_
  rcases idxN 6 (by decide +kernel) a with q2 | ⟨k2, hk2, q2⟩
  · refine sw_V (M' := MX3_walkAt) (d' := d - 1) (bc' := 1) (bs' := 6) (ci := 4) (as := [_]) dX3_takeOut_2 w_357 ok_X3_walkAt (m_walkAt_x hR (Nat.le_refl _) (Nat.le_refl _) q2) hR.1 rfl (by omega) (Nat.le_of_ble_eq_true rfl) (by omega) (by omega) (dx_x (swx_out rfl ?_)) (fun v h' n' _ z => dx_k z)
    rw [opTakeOut, onWk_x q2]
    exact ⟨rfl, rfl, hR, FrC.rf⟩
  subst q2
  refine sw_V (M' := MX3_walkAt) (d' := d - 1) (bc' := 1) (bs' := 6) (ci := 4) (as := [_]) dX3_takeOut_2 w_357 ok_X3_walkAt (m_walkAt_k hR (Nat.le_refl _) (Nat.le_refl _) hk2) hR.1 rfl (by omega) (Nat.le_of_ble_eq_true rfl) (by omega) (by omega) (fun E h' n' _ z => det_x z) (det_k ?_)
  refine sw_astore_n (pc' := 6) (lv' := [(2, _), (0, _), (1, _)]) rfl dX3_takeOut_5 (by decide +kernel) rfl ?_
  refine sw_aload_n (pc' := 7) rfl dX3_takeOut_6 rfl ?_
  rcases Classical.em ((σ.2.2.2.2.1 k2).1 = false) with q7 | q7
  · refine sw_S (M' := MX3_requireMade) (d' := d - 1) (bc' := 1) (bs' := 6) (as := [_]) dX3_takeOut_7 w_640 ok_X3_requireMade (m_requireMade_x (hR.wk hk2).2 (Nat.le_refl _) (Nat.le_refl _) q7) (by omega) (Nat.le_of_ble_eq_true rfl) (by omega) (by omega) (dx_x (swx_out rfl ?_)) (fun v h' n' _ z => dx_k z)
    rw [opTakeOut, onWk_k hk2, if_pos q7]
    exact ⟨rfl, rfl, hR, FrC.rf⟩
  refine sw_S (M' := MX3_requireMade) (d' := d - 1) (bc' := 1) (bs' := 6) (as := [_]) dX3_takeOut_7 w_640 ok_X3_requireMade (m_requireMade_k (hR.wk hk2).2 (Nat.le_refl _) (Nat.le_refl _) q7) (by omega) (Nat.le_of_ble_eq_true rfl) (by omega) (by omega) (fun E h' n' _ z => det_x z) (det_k ?_)
  refine sw_aload_n (pc' := 11) rfl dX3_takeOut_10 rfl ?_
  refine sw_V (M' := MX2_isStale) (d' := d - 1) (bc' := 0) (bs' := 0) (ci := 3) (as := []) dX3_takeOut_11 w_284 ok_X2_isStale (m_isStale (hR.wk hk2).2 (hR.sh (hR.wk hk2).1)) (hR.wk hk2).2.1 rfl (by omega) (Nat.le_of_ble_eq_true rfl) (by omega) (by omega) (fun E h' n' _ z => det_x z) (det_k ?_)
  refine sw_if_ne (pc' := 17) (tgt := 41) rfl dX3_takeOut_14 (by decide +kernel) (fun c14 => ?_) (fun c14 => ?_)
  · refine sw_aload_n (pc' := 42) rfl dX3_takeOut_41 rfl ?_
    refine sw_V (M' := MX3_refuse) (d' := d - 1) (bc' := 0) (bs' := 0) (ci := 4) (as := []) dX3_takeOut_42 w_439 ok_X3_refuse (m_refuse hR) hR.1 rfl (by omega) (Nat.le_of_ble_eq_true rfl) (by omega) (by omega) (fun E h' n' _ z => cp_x z) (cp_k (fun p42 p42R p42F => ?_))
    refine sw_ret (v := some _) ⟨dX3_takeOut_45, _, rfl, rfl⟩ ?_
    rw [opTakeOut, onWk_k hk2, if_neg q7, if_pos (Or.inl (show wSt σ k2 = true from bI_1 c14))]
    exact ⟨rfl, rfl, p42R, p42F⟩
  · refine sw_aload_n (pc' := 18) rfl dX3_takeOut_17 rfl ?_
    refine sw_getf (ci := 3) (k := 3) (pc' := 21) rfl dX3_takeOut_18 (by decide +kernel) w_124 (hR.wk hk2).2.1 rfl ?_
    refine sw_iconst (pc' := 22) (v := 1) rfl dX3_takeOut_21 (by decide +kernel) ?_
    refine sw_icmp_ne (pc' := 25) (tgt := 41) rfl dX3_takeOut_22 (by decide +kernel) (fun c22 => ?_) (fun c22 => ?_)
    · refine sw_aload_n (pc' := 42) rfl dX3_takeOut_41 rfl ?_
      refine sw_V (M' := MX3_refuse) (d' := d - 1) (bc' := 0) (bs' := 0) (ci := 4) (as := []) dX3_takeOut_42 w_439 ok_X3_refuse (m_refuse hR) hR.1 rfl (by omega) (Nat.le_of_ble_eq_true rfl) (by omega) (by omega) (fun E h' n' _ z => cp_x z) (cp_k (fun p42 p42R p42F => ?_))
      refine sw_ret (v := some _) ⟨dX3_takeOut_45, _, rfl, rfl⟩ ?_
      rw [opTakeOut, onWk_k hk2, if_neg q7, if_pos (Or.inr (Or.inl c22))]
      exact ⟨rfl, rfl, p42R, p42F⟩
    · refine sw_aload_n (pc' := 26) rfl dX3_takeOut_25 rfl ?_
      refine sw_getf (ci := 3) (k := 2) (pc' := 29) rfl dX3_takeOut_26 (by decide +kernel) w_122 (hR.wk hk2).2.1 rfl ?_
      refine sw_bipush (pc' := 31) (v := 7) rfl dX3_takeOut_29 (by decide +kernel) ?_
      refine sw_icmp_eq (pc' := 34) (tgt := 41) rfl dX3_takeOut_31 (by decide +kernel) (fun c31 => ?_) (fun c31 => ?_)
      · refine sw_aload_n (pc' := 42) rfl dX3_takeOut_41 rfl ?_
        refine sw_V (M' := MX3_refuse) (d' := d - 1) (bc' := 0) (bs' := 0) (ci := 4) (as := []) dX3_takeOut_42 w_439 ok_X3_refuse (m_refuse hR) hR.1 rfl (by omega) (Nat.le_of_ble_eq_true rfl) (by omega) (by omega) (fun E h' n' _ z => cp_x z) (cp_k (fun p42 p42R p42F => ?_))
        refine sw_ret (v := some _) ⟨dX3_takeOut_45, _, rfl, rfl⟩ ?_
        rw [opTakeOut, onWk_k hk2, if_neg q7, if_pos (Or.inr (Or.inr (Or.inl (show nI (wO σ k2) = 7 from c31))))]
        exact ⟨rfl, rfl, p42R, p42F⟩
      · refine sw_aload_n (pc' := 35) rfl dX3_takeOut_34 rfl ?_
        refine sw_V (M' := MX2_canTakeOut) (d' := d - 1) (bc' := 0) (bs' := 0) (ci := 3) (as := []) dX3_takeOut_35 w_658 ok_X2_canTakeOut (m_canTakeOut (hR.wk hk2).2 (hR.sh (hR.wk hk2).1)) (hR.wk hk2).2.1 rfl (by omega) (Nat.le_of_ble_eq_true rfl) (by omega) (by omega) (fun E h' n' _ z => det_x z) (det_k ?_)
        refine sw_if_ne (pc' := 41) (tgt := 46) rfl dX3_takeOut_38 (by decide +kernel) (fun c38 => ?_) (fun c38 => ?_)
        · refine sw_aload_n (pc' := 47) rfl dX3_takeOut_46 rfl ?_
          refine sw_aload_n (pc' := 48) rfl dX3_takeOut_47 rfl ?_
          refine sw_getf (ci := 3) (k := 1) (pc' := 51) rfl dX3_takeOut_48 (by decide +kernel) w_120 (hR.wk hk2).2.1 rfl ?_
          refine sw_aload_n (pc' := 52) rfl dX3_takeOut_51 rfl ?_
          refine sw_V (M' := MX2_ahead) (d' := d - 1) (bc' := 0) (bs' := 0) (ci := 3) (as := []) dX3_takeOut_52 w_215 ok_X2_ahead (m_ahead (hR.wk hk2).2) (hR.wk hk2).2.1 rfl (by omega) (Nat.le_of_ble_eq_true rfl) (by omega) (by omega) (fun E h' n' _ z => det_x z) (det_k ?_)
          refine sw_iconst (pc' := 56) (v := 1) rfl dX3_takeOut_55 (by decide +kernel) ?_
          refine sw_isub (pc' := 57) rfl dX3_takeOut_56 ?_
          have c1 : (σ.2.2.2.2.1 k2).1 = true := by cases e : (σ.2.2.2.2.1 k2).1 with | false => exact absurd e q7 | true => rfl
          have c2 : wCt σ k2 = true := bI_1 c38
          have ov : wO σ k2 < 11 := (hR.wk hk2).1
          obtain ⟨A, eA, hA, hl⟩ := hV k2 hk2 c1 (bI_0 c14)
          have hA1 : 1 ≤ A := hl (Bool.and_eq_true_iff.mp c2).1
          obtain ⟨B, rfl⟩ : ∃ B, A = B + 1 := ⟨A - 1, by omega⟩
          have e1 : (σ.2.2.2.2.1 k2).2.2.2.1 - (σ.2.2.2.2.1 k2).2.2.2.2.1 - 1 = nI B := by rw [show (σ.2.2.2.2.1 k2).2.2.2.1 - (σ.2.2.2.2.1 k2).2.2.2.2.1 = nI (B + 1) from eA, nI_pred]
          rw [e1]
          have hc := (hR.sh ov).2.2.1
          refine sw_V (M' := MX3_liftFrom) (d' := d - 1) (bc' := 0) (bs' := 0) (ci := 4) (as := [_, _]) dX3_takeOut_57 w_482 ok_X3_liftFrom (m_liftFrom (k := wO σ k2) hR ov (by omega) hT (by omega)) hR.1 rfl (by omega) (Nat.le_of_ble_eq_true rfl) (by omega) (by omega) (fun E h' n' _ z => cp_x z) (cp_k (fun p57 p57R p57F => ?_))
          have W1 := p57R.wk hk2
          rw [show (liU σ (wO σ k2) B).2.2.2.2.1 k2 = σ.2.2.2.2.1 k2 from by rw [liU_w]] at W1
          have S1 := p57R.sh ov
          refine sw_aload_n (pc' := 61) rfl dX3_takeOut_60 rfl ?_
          have hne : 102 + 2 * wO σ k2 ≠ 125 + k2 ∧ 102 + 2 * wO σ k2 + 1 ≠ 125 + k2 := by omega
          refine sw_V (M' := MX2_tookOut) (d' := d - 1) (bc' := 0) (bs' := 0) (ci := 3) (as := []) dX3_takeOut_61 w_662 ok_X2_tookOut (m_tookOut W1.2 S1 hne) W1.2.1 rfl (by omega) (Nat.le_of_ble_eq_true rfl) (by omega) (by omega) (fun E h' n' _ z => wkp_x z) (wkp_k (fun p61 p61W p61F => ?_))
          refine sw_aload_n (pc' := 65) rfl dX3_takeOut_64 rfl ?_
          refine sw_getf (ci := 3) (k := 1) (pc' := 68) rfl dX3_takeOut_65 (by decide +kernel) w_120 p61W.1 rfl ?_
          refine sw_getf (ci := 2) (k := 2) (pc' := 71) rfl dX3_takeOut_68 (by decide +kernel) w_84 (S1.frW p61F hne).1 rfl ?_
          refine sw_ret (v := some _) ⟨dX3_takeOut_71, _, rfl, rfl⟩ ?_
          rw [opTakeOut, onWk_k hk2, if_neg q7, if_neg (fun q => q.elim (fun e => Bool.noConfusion (e.symm.trans (show wSt σ k2 = false from bI_0 c14))) (fun q => q.elim (fun e => e c22) (fun q => q.elim (fun e => c31 e) (fun e => Bool.noConfusion (e.symm.trans c2))))), show (wAh σ k2).toNatClampNeg - 1 = B from by rw [eA, nI_clamp (by omega)]; rfl]
          exact ⟨rfl, rfl, p57R.wU hk2 ⟨ov, p61W⟩ p61F, p57F.tr (p61F.c (by omega) (by omega)) (Nat.le_refl _)⟩
        · refine sw_aload_n (pc' := 42) rfl dX3_takeOut_41 rfl ?_
          refine sw_V (M' := MX3_refuse) (d' := d - 1) (bc' := 0) (bs' := 0) (ci := 4) (as := []) dX3_takeOut_42 w_439 ok_X3_refuse (m_refuse hR) hR.1 rfl (by omega) (Nat.le_of_ble_eq_true rfl) (by omega) (by omega) (fun E h' n' _ z => cp_x z) (cp_k (fun p42 p42R p42F => ?_))
          refine sw_ret (v := some _) ⟨dX3_takeOut_45, _, rfl, rfl⟩ ?_
          rw [opTakeOut, onWk_k hk2, if_neg q7, if_pos (Or.inr (Or.inr (Or.inr (show wCt σ k2 = false from bI_0 c38))))]
          exact ⟨rfl, rfl, p42R, p42F⟩
