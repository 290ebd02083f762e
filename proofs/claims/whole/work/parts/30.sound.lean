/-! isSound -/
theorem pg_k {A : Nat → AH → Option Value → Prop} {h : AH} {σ : CS} {n n0 : Nat} {r : Option Value} (hR : RC h σ) (k : ∀ h', RC h' σ → FrC h h' n → A n h' r) : ∀ (v : Option Value) (h' : AH) (n' : Nat), n0 ≤ n' → PgP h r n (.inl v) h' n' → A n' h' v := by
  rintro v h' n' - ⟨e, rfl, g1, g2, g3⟩
  cases e
  obtain ⟨f, c, s, t, L⟩ := hR.2.2.2.2.2.2.2.1
  exact k h' (rc_probe hR g1 g2 ⟨f, c, s, t, (g3 133 (by decide +kernel) (by decide +kernel)).trans L.1, (g3 134 (by decide +kernel) (by decide +kernel)).trans L.2.1, L.2.2⟩ (fun i hi => g3 i (by omega) (by omega))) (fun i hi _ => g3 i (by omega) (by omega))
theorem pg_x {A : Prop} {h : AH} {n : Nat} {r : Option Value} {E : String} {h' : AH} {n' : Nat} (z : PgP h r n (.inr E) h' n') : A := by cases z.1
theorem pl_k {A : Nat → AH → Option Value → Prop} {h : AH} {σ : CS} {n n0 : Nat} {r : Option Value} (hR : RC h σ) (k : ∀ h', RC h' σ → FrC h h' n → A n h' r) : ∀ (v : Option Value) (h' : AH) (n' : Nat), n0 ≤ n' → PgL h r n (.inl v) h' n' → A n' h' v := by
  rintro v h' n' - ⟨e, rfl, g1, g2, g3, g4⟩
  cases e
  exact k h' (rc_probe hR g1 g2 g3 g4) (fun i hi _ => g4 i (by omega))
theorem pl_x {A : Prop} {h : AH} {n : Nat} {r : Option Value} {E : String} {h' : AH} {n' : Nat} (z : PgL h r n (.inr E) h' n') : A := by cases z.1
def snB (σ : CS) : Bool := riB (σ.1 3) 1 (σ.2.1 3 - 1) && (riB (σ.1 6) 1 (σ.2.1 6 - 1) && (eoB (σ.1 4) (σ.2.1 4) 0 (σ.2.1 4) && decide (σ.2.1 6 = σ.2.1 7)))
theorem l_isSound {σ : CS} {d bc bs n : Nat} {h0 : AH} (hd : 6 ≤ d) (m : Nat) : ∀ (j : Nat) (h : AH), j + m = 11 → RC h σ → FrC h0 h n → SW SR0 MX3_isSound d bc bs 2 [(1, .int (nI j)), (0, .ref 100)] [] h n (CP h0 n (rI (bI (snB σ)), σ)) := by
  induction m with
  | zero =>
    intro j h hj hR hF
    have hj11 : j = 11 := by omega
    subst hj11
    refine sw_iload_n (pc' := 3) rfl dX3_isSound_2 rfl ?_
    refine sw_bipush (pc' := 5) (v := 11) rfl dX3_isSound_3 (by decide +kernel) ?_
    refine sw_icmp_ge (pc' := 8) (tgt := 42) rfl dX3_isSound_5 (by decide +kernel) (fun c5 => ?_) (fun c5 => ?_)
    · refine sw_aload_n (pc' := 43) rfl dX3_isSound_42 rfl ?_
      refine sw_iconst (pc' := 44) (v := 0) rfl dX3_isSound_43 (by decide +kernel) ?_
      refine sw_iconst (pc' := 45) (v := 0) rfl dX3_isSound_44 (by decide +kernel) ?_
      refine sw_iconst (pc' := 46) (v := 2) rfl dX3_isSound_45 (by decide +kernel) ?_
      refine sw_V (M' := MX3_giveTheSame) (d' := d - 1) (bc' := 0) (bs' := 0) (ci := 4) (as := [_, _, _]) dX3_isSound_46 w_180 ok_X3_giveTheSame (m_giveTheSame (k := 0) hR (by decide +kernel) (by omega)) hR.1 rfl (by omega) (Nat.le_of_ble_eq_true rfl) (Nat.zero_le _) (Nat.zero_le _) (fun E h' n' _ z => pg_x z) (pg_k hR (fun p46 p46R p46F => ?_))
      refine sw_if_eq (pc' := 52) (tgt := 116) rfl dX3_isSound_49 (by decide +kernel) (fun c49 => ?_) (fun c49 => ?_)
      · exact absurd (show (1 : Int32) = 0 from c49) (by decide +kernel)
      · obtain ⟨g, ga, gb⟩ := p46R.2.1
        refine sw_aload_n (pc' := 53) rfl dX3_isSound_52 rfl ?_
        refine sw_getf (ci := 4) (k := 0) (pc' := 56) rfl dX3_isSound_53 (by decide +kernel) w_150 p46R.1 rfl ?_
        refine sw_iconst (pc' := 57) (v := 3) rfl dX3_isSound_56 (by decide +kernel) ?_
        refine sw_aald (pc' := 58) rfl dX3_isSound_57 ga (by decide +kernel) (by decide +kernel) (j := 3) rfl (by decide +kernel) (by decide +kernel) (gb 3 (by decide +kernel)) ?_
        refine sw_V (M' := MX1_rises) (d' := d - 1) (bc' := 0) (bs' := 0) (ci := 2) (as := []) dX3_isSound_58 w_239 ok_X1_rises (m_rises (p46R.sh (k := 3) (by decide +kernel))) (p46R.sh (k := 3) (by decide +kernel)).1 rfl (by omega) (Nat.le_of_ble_eq_true rfl) (Nat.zero_le _) (Nat.zero_le _) (fun E h' n' _ z => det_x z) (det_k ?_)
        refine sw_if_eq (pc' := 64) (tgt := 116) rfl dX3_isSound_61 (by decide +kernel) (fun c61 => ?_) (fun c61 => ?_)
        · refine sw_iconst (pc' := 117) (v := 0) rfl dX3_isSound_116 (by decide +kernel) ?_
          refine sw_ret (v := some _) ⟨dX3_isSound_117, _, rfl, rfl⟩ ?_
          exact ⟨by rw [snB, bI_0 c61, Bool.false_and]; rfl, rfl, p46R, hF.tr p46F (Nat.le_refl _)⟩
        · refine sw_aload_n (pc' := 65) rfl dX3_isSound_64 rfl ?_
          refine sw_getf (ci := 4) (k := 0) (pc' := 68) rfl dX3_isSound_65 (by decide +kernel) w_150 p46R.1 rfl ?_
          refine sw_bipush (pc' := 70) (v := 6) rfl dX3_isSound_68 (by decide +kernel) ?_
          refine sw_aald (pc' := 71) rfl dX3_isSound_70 ga (by decide +kernel) (by decide +kernel) (j := 6) rfl (by decide +kernel) (by decide +kernel) (gb 6 (by decide +kernel)) ?_
          refine sw_V (M' := MX1_rises) (d' := d - 1) (bc' := 0) (bs' := 0) (ci := 2) (as := []) dX3_isSound_71 w_239 ok_X1_rises (m_rises (p46R.sh (k := 6) (by decide +kernel))) (p46R.sh (k := 6) (by decide +kernel)).1 rfl (by omega) (Nat.le_of_ble_eq_true rfl) (Nat.zero_le _) (Nat.zero_le _) (fun E h' n' _ z => det_x z) (det_k ?_)
          refine sw_if_eq (pc' := 77) (tgt := 116) rfl dX3_isSound_74 (by decide +kernel) (fun c74 => ?_) (fun c74 => ?_)
          · refine sw_iconst (pc' := 117) (v := 0) rfl dX3_isSound_116 (by decide +kernel) ?_
            refine sw_ret (v := some _) ⟨dX3_isSound_117, _, rfl, rfl⟩ ?_
            exact ⟨by rw [snB, bI_1 c61, bI_0 c74, Bool.false_and, Bool.and_false]; rfl, rfl, p46R, hF.tr p46F (Nat.le_refl _)⟩
          · refine sw_aload_n (pc' := 78) rfl dX3_isSound_77 rfl ?_
            refine sw_getf (ci := 4) (k := 0) (pc' := 81) rfl dX3_isSound_78 (by decide +kernel) w_150 p46R.1 rfl ?_
            refine sw_iconst (pc' := 82) (v := 4) rfl dX3_isSound_81 (by decide +kernel) ?_
            refine sw_aald (pc' := 83) rfl dX3_isSound_82 ga (by decide +kernel) (by decide +kernel) (j := 4) rfl (by decide +kernel) (by decide +kernel) (gb 4 (by decide +kernel)) ?_
            refine sw_V (M' := MX1_hasEachOnce) (d' := d - 1) (bc' := 0) (bs' := 0) (ci := 2) (as := []) dX3_isSound_83 w_243 ok_X1_hasEachOnce (m_hasEachOnce (p46R.sh (k := 4) (by decide +kernel)) (by omega)) (p46R.sh (k := 4) (by decide +kernel)).1 rfl (by omega) (Nat.le_of_ble_eq_true rfl) (Nat.zero_le _) (Nat.zero_le _) (fun E h' n' _ z => det_x z) (det_k ?_)
            refine sw_if_eq (pc' := 89) (tgt := 116) rfl dX3_isSound_86 (by decide +kernel) (fun c86 => ?_) (fun c86 => ?_)
            · refine sw_iconst (pc' := 117) (v := 0) rfl dX3_isSound_116 (by decide +kernel) ?_
              refine sw_ret (v := some _) ⟨dX3_isSound_117, _, rfl, rfl⟩ ?_
              exact ⟨by rw [snB, bI_1 c61, bI_1 c74, bI_0 c86, Bool.false_and, Bool.and_false, Bool.and_false]; rfl, rfl, p46R, hF.tr p46F (Nat.le_refl _)⟩
            · refine sw_aload_n (pc' := 90) rfl dX3_isSound_89 rfl ?_
              refine sw_getf (ci := 4) (k := 0) (pc' := 93) rfl dX3_isSound_90 (by decide +kernel) w_150 p46R.1 rfl ?_
              refine sw_bipush (pc' := 95) (v := 6) rfl dX3_isSound_93 (by decide +kernel) ?_
              refine sw_aald (pc' := 96) rfl dX3_isSound_95 ga (by decide +kernel) (by decide +kernel) (j := 6) rfl (by decide +kernel) (by decide +kernel) (gb 6 (by decide +kernel)) ?_
              refine sw_getf (ci := 2) (k := 2) (pc' := 99) rfl dX3_isSound_96 (by decide +kernel) w_84 (p46R.sh (k := 6) (by decide +kernel)).1 rfl ?_
              refine sw_aload_n (pc' := 100) rfl dX3_isSound_99 rfl ?_
              refine sw_getf (ci := 4) (k := 0) (pc' := 103) rfl dX3_isSound_100 (by decide +kernel) w_150 p46R.1 rfl ?_
              refine sw_bipush (pc' := 105) (v := 7) rfl dX3_isSound_103 (by decide +kernel) ?_
              refine sw_aald (pc' := 106) rfl dX3_isSound_105 ga (by decide +kernel) (by decide +kernel) (j := 7) rfl (by decide +kernel) (by decide +kernel) (gb 7 (by decide +kernel)) ?_
              refine sw_getf (ci := 2) (k := 2) (pc' := 109) rfl dX3_isSound_106 (by decide +kernel) w_84 (p46R.sh (k := 7) (by decide +kernel)).1 rfl ?_
              refine sw_icmp_ne (pc' := 112) (tgt := 116) rfl dX3_isSound_109 (by decide +kernel) (fun c109 => ?_) (fun c109 => ?_)
              · refine sw_iconst (pc' := 117) (v := 0) rfl dX3_isSound_116 (by decide +kernel) ?_
                refine sw_ret (v := some _) ⟨dX3_isSound_117, _, rfl, rfl⟩ ?_
                exact ⟨by rw [snB, bI_1 c61, bI_1 c74, bI_1 c86, decide_eq_false (fun e => c109 (congrArg nI e))]; rfl, rfl, p46R, hF.tr p46F (Nat.le_refl _)⟩
              · refine sw_iconst (pc' := 113) (v := 1) rfl dX3_isSound_112 (by decide +kernel) ?_
                refine sw_goto (tgt := 117) dX3_isSound_113 (by decide +kernel) ?_
                refine sw_ret (v := some _) ⟨dX3_isSound_117, _, rfl, rfl⟩ ?_
                exact ⟨by rw [snB, bI_1 c61, bI_1 c74, bI_1 c86, decide_eq_true ((nI_eq (by have := (p46R.sh (k := 6) (by decide +kernel)).2.2.1; omega) (by have := (p46R.sh (k := 7) (by decide +kernel)).2.2.1; omega)).mp c109)]; rfl, rfl, p46R, hF.tr p46F (Nat.le_refl _)⟩
    · exact absurd (Int32.le_refl (nI 11)) c5
  | succ m ih =>
    intro j h hm hR hF
    have hj : j < 11 := by omega
    refine sw_iload_n (pc' := 3) rfl dX3_isSound_2 rfl ?_
    refine sw_bipush (pc' := 5) (v := 11) rfl dX3_isSound_3 (by decide +kernel) ?_
    refine sw_icmp_ge (pc' := 8) (tgt := 42) rfl dX3_isSound_5 (by decide +kernel) (fun c5 => ?_) (fun c5 => ?_)
    · exact absurd c5 (nI_ge (b := 11) (by omega) (by decide +kernel))
    · refine sw_aload_n (pc' := 9) rfl dX3_isSound_8 rfl ?_
      refine sw_iload_n (pc' := 10) rfl dX3_isSound_9 rfl ?_
      refine sw_iconst (pc' := 11) (v := 0) rfl dX3_isSound_10 (by decide +kernel) ?_
      refine sw_iconst (pc' := 12) (v := 1) rfl dX3_isSound_11 (by decide +kernel) ?_
      refine sw_V (M' := MX3_giveTheSame) (d' := d - 1) (bc' := 0) (bs' := 0) (ci := 4) (as := [_, _, _]) dX3_isSound_12 w_180 ok_X3_giveTheSame (m_giveTheSame (k := j) hR hj (by omega)) hR.1 rfl (by omega) (Nat.le_of_ble_eq_true rfl) (Nat.zero_le _) (Nat.zero_le _) (fun E h' n' _ z => pg_x z) (pg_k hR (fun p12 p12R p12F => ?_))
      refine sw_if_eq (pc' := 18) (tgt := 34) rfl dX3_isSound_15 (by decide +kernel) (fun c15 => ?_) (fun c15 => ?_)
      · exact absurd (show (1 : Int32) = 0 from c15) (by decide +kernel)
      · refine sw_aload_n (pc' := 19) rfl dX3_isSound_18 rfl ?_
        refine sw_iload_n (pc' := 20) rfl dX3_isSound_19 rfl ?_
        refine sw_V (M' := MX3_isItsList) (d' := d - 1) (bc' := 0) (bs' := 0) (ci := 4) (as := [_]) dX3_isSound_20 w_208 ok_X3_isItsList (m_isItsList p12R hj (by omega)) p12R.1 rfl (by omega) (Nat.le_of_ble_eq_true rfl) (Nat.zero_le _) (Nat.zero_le _) (fun E h' n' _ z => pl_x z) (pl_k p12R (fun p20 p20R p20F => ?_))
        refine sw_if_eq (pc' := 26) (tgt := 34) rfl dX3_isSound_23 (by decide +kernel) (fun c23 => ?_) (fun c23 => ?_)
        · exact absurd (show (1 : Int32) = 0 from c23) (by decide +kernel)
        · refine sw_aload_n (pc' := 27) rfl dX3_isSound_26 rfl ?_
          refine sw_iload_n (pc' := 28) rfl dX3_isSound_27 rfl ?_
          refine sw_V (M' := MX3_isItsListBehindOneStep) (d' := d - 1) (bc' := 0) (bs' := 0) (ci := 4) (as := [_]) dX3_isSound_28 w_231 ok_X3_isItsListBehindOneStep (m_isItsListBehindOneStep p20R hj (by omega)) p20R.1 rfl (by omega) (Nat.le_of_ble_eq_true rfl) (Nat.zero_le _) (Nat.zero_le _) (fun E h' n' _ z => pl_x z) (pl_k p20R (fun p28 p28R p28F => ?_))
          refine sw_if_ne (pc' := 34) (tgt := 36) rfl dX3_isSound_31 (by decide +kernel) (fun c31 => ?_) (fun c31 => ?_)
          · refine sw_iinc (pc' := 39) (lv' := [(1, _), (0, _)]) (v := nI (j + 1)) rfl dX3_isSound_36 rfl (nI_succ j).symm (by decide +kernel) rfl ?_
            refine sw_goto (tgt := 2) dX3_isSound_39 (by decide +kernel) ?_
            exact ih (j + 1) p28 (by omega) p28R (((hF.tr p12F (Nat.le_refl _)).tr p20F (Nat.le_refl _)).tr p28F (Nat.le_refl _))
          · exact absurd (show (1 : Int32) = 0 from c31) (by decide +kernel)
theorem m_isSound {h : AH} {σ : CS} {d bc bs n : Nat} (hR : RC h σ) (hd : 6 ≤ d) : SM SR0 MX3_isSound d bc bs [.ref 100] h n (CP h n (rI (bI (snB σ)), σ)) := by
  refine sm_of pn_Overwalks rfl (Nat.le_of_ble_eq_true rfl) ?_
  refine sw_iconst (pc' := 1) (v := 0) rfl dX3_isSound_0 (by decide +kernel) ?_
  refine sw_istore_n (pc' := 2) (lv' := [(1, _), (0, _)]) rfl dX3_isSound_1 (by decide +kernel) rfl ?_
  exact l_isSound hd 11 0 h rfl hR FrC.rf
