/-! putAll -/
def o4 (x a b c e : Int32) : Int32 := if x = 0 then a else if x = 1 then b else if x = 2 then c else e
/-- the first of four that is -1, from j on -/
def cfN (a b c e : Int32) : Nat → Nat → Nat
  | j, 0 => j
  | j, m + 1 => if o4 (nI j) a b c e = -1 then j else cfN a b c e (j + 1) m
theorem cfN_le {a b c e : Int32} {m : Nat} : ∀ {j : Nat}, j ≤ cfN a b c e j m ∧ cfN a b c e j m ≤ j + m := by
  induction m with
  | zero => intro j; exact ⟨Nat.le_refl _, Nat.le_refl _⟩
  | succ m ih =>
    intro j
    unfold cfN
    split
    · omega
    · have := @ih (j + 1)
      omega
def taB (k : Nat) (a b c e : Int32) : Nat → Nat → Bool
  | _, 0 => true
  | j, m + 1 => tkB k (o4 (nI j) a b c e) && taB k a b c e (j + 1) m
/-- m of the four from the j-th on are PUT on SHELF k -/
def paM (k : Nat) (a b c e : Int32) : Nat → Nat → Bool → CS → Bool × CS
  | _, 0, w, σ => (w, σ)
  | j, m + 1, w, σ => paM k a b c e (j + 1) m (w || ldY (σ.1 k) (σ.2.1 k) (kdO k) (o4 (nI j) a b c e)) (ldU σ k (o4 (nI j) a b c e))
def opPutAll (σ : CS) (s a b c e : Int32) : ARes × CS := onSh s σ (fun k => if a < -1 ∨ 100 < a then (xA, σ) else if b < -1 ∨ 100 < b then (xA, σ) else if c < -1 ∨ 100 < c then (xA, σ) else if e < -1 ∨ 100 < e then (xA, σ) else if 12 < nI (σ.2.1 k) + nI (cfN a b c e 0 4) then (xS, σ) else if kdO k = 5 then (rI (-9), rfU σ) else if taB k a b c e 0 (cfN a b c e 0 4) = false then (rI (-9), rfU σ) else (rI (bI (paM k a b c e 0 (cfN a b c e 0 4) false σ).1), (paM k a b c e 0 (cfN a b c e 0 4) false σ).2))
theorem m_oneOfFour {h : AH} {d bc bs n : Nat} {x a b c e : Int32} : SM SR0 MX3_oneOfFour d bc bs [.int x, .int a, .int b, .int c, .int e] h n (Det (rI (o4 x a b c e)) h n) := by
  refine sm_of pn_Overwalks rfl (Nat.le_of_ble_eq_true rfl) ?_
  refine sw_iload_n (pc' := 1) rfl dX3_oneOfFour_0 rfl ?_
  rcases Classical.em (x = 0) with t1_0 | t1_0
  · refine sw_tableIn (tgt := 28) dX3_oneOfFour_1 (by rw [t1_0]; decide) (by rw [t1_0]; decide) (by rw [t1_0]; rfl) (by decide +kernel) ?_
    refine sw_iload_n (pc' := 29) rfl dX3_oneOfFour_28 rfl ?_
    refine sw_ret (v := some _) ⟨dX3_oneOfFour_29, _, rfl, rfl⟩ ?_
    exact ⟨by rw [o4, if_pos t1_0]; rfl, rfl, rfl⟩
  rcases Classical.em (x = 1) with t1_1 | t1_1
  · refine sw_tableIn (tgt := 30) dX3_oneOfFour_1 (by rw [t1_1]; decide) (by rw [t1_1]; decide) (by rw [t1_1]; rfl) (by decide +kernel) ?_
    refine sw_iload_n (pc' := 31) rfl dX3_oneOfFour_30 rfl ?_
    refine sw_ret (v := some _) ⟨dX3_oneOfFour_31, _, rfl, rfl⟩ ?_
    exact ⟨by rw [o4, if_neg t1_0, if_pos t1_1]; rfl, rfl, rfl⟩
  rcases Classical.em (x = 2) with t1_2 | t1_2
  · refine sw_tableIn (tgt := 32) dX3_oneOfFour_1 (by rw [t1_2]; decide) (by rw [t1_2]; decide) (by rw [t1_2]; rfl) (by decide +kernel) ?_
    refine sw_iload_n (pc' := 33) rfl dX3_oneOfFour_32 rfl ?_
    refine sw_ret (v := some _) ⟨dX3_oneOfFour_33, _, rfl, rfl⟩ ?_
    exact ⟨by rw [o4, if_neg t1_0, if_neg t1_1, if_pos t1_2]; rfl, rfl, rfl⟩
  refine sw_tableOut (tgt := 34) dX3_oneOfFour_1 (ts3 t1_0 t1_1 t1_2) (by decide +kernel) ?_
  refine sw_iload (pc' := 36) rfl dX3_oneOfFour_34 rfl ?_
  refine sw_ret (v := some _) ⟨dX3_oneOfFour_36, _, rfl, rfl⟩ ?_
  exact ⟨by rw [o4, if_neg t1_0, if_neg t1_1, if_neg t1_2]; rfl, rfl, rfl⟩
theorem l_countToFirstNone {h : AH} {d bc bs n : Nat} {a b c e : Int32} (hd : 1 ≤ d) (m : Nat) : ∀ j, j + m = 4 → SW SR0 MX3_countToFirstNone d bc bs 3 [(4, .int (nI j)), (0, .int a), (1, .int b), (2, .int c), (3, .int e)] [] h n (Det (rI (nI (cfN a b c e j m))) h n) := by
  induction m with
  | zero =>
    intro j hj
    have hj4 : j = 4 := by omega
    subst hj4
    refine sw_iload (pc' := 5) rfl dX3_countToFirstNone_3 rfl ?_
    refine sw_iconst (pc' := 6) (v := 4) rfl dX3_countToFirstNone_5 (by decide +kernel) ?_
    refine sw_icmp_ge (pc' := 9) (tgt := 31) rfl dX3_countToFirstNone_6 (by decide +kernel) (fun c6 => ?_) (fun c6 => ?_)
    · refine sw_iconst (pc' := 32) (v := 4) rfl dX3_countToFirstNone_31 (by decide +kernel) ?_
      refine sw_ret (v := some _) ⟨dX3_countToFirstNone_32, _, rfl, rfl⟩ ?_
      exact ⟨rfl, rfl, rfl⟩
    · exact absurd (Int32.le_refl (nI 4)) c6
  | succ m ih =>
    intro j hj
    refine sw_iload (pc' := 5) rfl dX3_countToFirstNone_3 rfl ?_
    refine sw_iconst (pc' := 6) (v := 4) rfl dX3_countToFirstNone_5 (by decide +kernel) ?_
    refine sw_icmp_ge (pc' := 9) (tgt := 31) rfl dX3_countToFirstNone_6 (by decide +kernel) (fun c6 => ?_) (fun c6 => ?_)
    · exact absurd c6 (nI_ge (b := 4) (by omega) (by decide +kernel))
    · refine sw_iload (pc' := 11) rfl dX3_countToFirstNone_9 rfl ?_
      refine sw_iload_n (pc' := 12) rfl dX3_countToFirstNone_11 rfl ?_
      refine sw_iload_n (pc' := 13) rfl dX3_countToFirstNone_12 rfl ?_
      refine sw_iload_n (pc' := 14) rfl dX3_countToFirstNone_13 rfl ?_
      refine sw_iload_n (pc' := 15) rfl dX3_countToFirstNone_14 rfl ?_
      refine sw_S (M' := MX3_oneOfFour) (d' := d - 1) (bc' := 0) (bs' := 0) (as := [_, _, _, _, _]) dX3_countToFirstNone_15 w_471 ok_X3_oneOfFour (m_oneOfFour) (by omega) (Nat.le_of_ble_eq_true rfl) (Nat.zero_le _) (Nat.zero_le _) (fun E h' n' _ z => det_x z) (det_k ?_)
      refine sw_iconst (pc' := 19) (v := (-1)) rfl dX3_countToFirstNone_18 (by decide +kernel) ?_
      refine sw_icmp_ne (pc' := 22) (tgt := 25) rfl dX3_countToFirstNone_19 (by decide +kernel) (fun c19 => ?_) (fun c19 => ?_)
      · refine sw_iinc (pc' := 28) (lv' := [(4, _), (0, _), (1, _), (2, _), (3, _)]) (v := nI (j + 1)) rfl dX3_countToFirstNone_25 rfl (nI_succ j).symm (by decide +kernel) rfl ?_
        refine sw_goto (tgt := 3) dX3_countToFirstNone_28 (by decide +kernel) ?_
        rw [cfN, if_neg c19]
        exact ih (j + 1) (by omega)
      · refine sw_iload (pc' := 24) rfl dX3_countToFirstNone_22 rfl ?_
        refine sw_ret (v := some _) ⟨dX3_countToFirstNone_24, _, rfl, rfl⟩ ?_
        exact ⟨by rw [cfN, if_pos c19]; rfl, rfl, rfl⟩
theorem m_countToFirstNone {h : AH} {d bc bs n : Nat} {a b c e : Int32} (hd : 1 ≤ d) : SM SR0 MX3_countToFirstNone d bc bs [.int a, .int b, .int c, .int e] h n (Det (rI (nI (cfN a b c e 0 4))) h n) := by
  refine sm_of pn_Overwalks rfl (Nat.le_of_ble_eq_true rfl) ?_
  refine sw_iconst (pc' := 1) (v := 0) rfl dX3_countToFirstNone_0 (by decide +kernel) ?_
  refine sw_istore (pc' := 3) (lv' := [(4, _), (0, _), (1, _), (2, _), (3, _)]) rfl dX3_countToFirstNone_1 (by decide +kernel) rfl ?_
  exact l_countToFirstNone hd 4 0 rfl
theorem l_putAll1 {h : AH} {σ : CS} {N : Nat} {Post : ARes → AH → Nat → Prop} {d bc bs n k : Nat} {s a b c e : Int32} (hR : RC h σ) (hk : k < 11) (hd : 3 ≤ d) (hN : N ≤ 4) (m : Nat) : ∀ (j : Nat), j + m = N → (taB k a b c e j m = true → SW SR0 MX3_putAll d bc bs 96 [(8, .int (nI N)), (7, .int (nI N)), (6, .ref (102 + 2 * k)), (0, .ref 100), (1, .int s), (2, .int a), (3, .int b), (4, .int c), (5, .int e)] [] h n Post) → (taB k a b c e j m = false → ∀ p, RC p (rfU σ) → FrC h p n → Post (rI (-9)) p n) → SW SR0 MX3_putAll d bc bs 59 [(8, .int (nI j)), (7, .int (nI N)), (6, .ref (102 + 2 * k)), (0, .ref 100), (1, .int s), (2, .int a), (3, .int b), (4, .int c), (5, .int e)] [] h n Post := by
  induction m with
  | zero =>
    intro j hj k1 k2
    have hjN : j = N := by omega
    subst hjN
    refine sw_iload (pc' := 61) rfl dX3_putAll_59 rfl ?_
    refine sw_iload (pc' := 63) rfl dX3_putAll_61 rfl ?_
    refine sw_icmp_ge (pc' := 66) (tgt := 96) rfl dX3_putAll_63 (by decide +kernel) (fun c63 => ?_) (fun c63 => ?_)
    · exact k1 rfl
    · exact absurd (Int32.le_refl _) c63
  | succ m ih =>
    intro j hj k1 k2
    rw [taB] at k1 k2
    refine sw_iload (pc' := 61) rfl dX3_putAll_59 rfl ?_
    refine sw_iload (pc' := 63) rfl dX3_putAll_61 rfl ?_
    refine sw_icmp_ge (pc' := 66) (tgt := 96) rfl dX3_putAll_63 (by decide +kernel) (fun c63 => ?_) (fun c63 => ?_)
    · exact absurd c63 (nI_ge (by omega) (by omega))
    · refine sw_aload (pc' := 68) rfl dX3_putAll_66 rfl ?_
      refine sw_iload (pc' := 70) rfl dX3_putAll_68 rfl ?_
      refine sw_iload_n (pc' := 71) rfl dX3_putAll_70 rfl ?_
      refine sw_iload_n (pc' := 72) rfl dX3_putAll_71 rfl ?_
      refine sw_iload (pc' := 74) rfl dX3_putAll_72 rfl ?_
      refine sw_iload (pc' := 76) rfl dX3_putAll_74 rfl ?_
      refine sw_S (M' := MX3_oneOfFour) (d' := d - 1) (bc' := 0) (bs' := 0) (as := [_, _, _, _, _]) dX3_putAll_76 w_471 ok_X3_oneOfFour (m_oneOfFour) (by omega) (Nat.le_of_ble_eq_true rfl) (Nat.zero_le _) (Nat.zero_le _) (fun E h' n' _ z => det_x z) (det_k ?_)
      refine sw_V (M' := MX1_takesIn) (d' := d - 1) (bc' := 0) (bs' := 0) (ci := 2) (as := [_]) dX3_putAll_79 w_435 ok_X1_takesIn (m_takesIn (hR.sh hk) (hR.kd kdO_r)) (hR.sh hk).1 rfl (by omega) (Nat.le_of_ble_eq_true rfl) (Nat.zero_le _) (Nat.zero_le _) (fun E h' n' _ z => det_x z) (det_k ?_)
      refine sw_if_ne (pc' := 85) (tgt := 90) rfl dX3_putAll_82 (by decide +kernel) (fun c82 => ?_) (fun c82 => ?_)
      · refine sw_iinc (pc' := 93) (lv' := [(8, _), (7, _), (6, _), (0, _), (1, _), (2, _), (3, _), (4, _), (5, _)]) (v := nI (j + 1)) rfl dX3_putAll_90 rfl (nI_succ j).symm (by decide +kernel) rfl ?_
        refine sw_goto (tgt := 59) dX3_putAll_93 (by decide +kernel) ?_
        have e1 : tkB k (o4 (nI j) a b c e) = true := bI_1 c82
        rw [e1, Bool.true_and] at k1 k2
        exact ih (j + 1) (by omega) k1 k2
      · refine sw_aload_n (pc' := 86) rfl dX3_putAll_85 rfl ?_
        refine sw_V (M' := MX3_refuse) (d' := d - 1) (bc' := 0) (bs' := 0) (ci := 4) (as := []) dX3_putAll_86 w_439 ok_X3_refuse (m_refuse hR) hR.1 rfl (by omega) (Nat.le_of_ble_eq_true rfl) (Nat.zero_le _) (Nat.zero_le _) (fun E h' n' _ z => cp_x z) (cp_k (fun p pR pF => ?_))
        refine sw_ret (v := some _) ⟨dX3_putAll_89, _, rfl, rfl⟩ ?_
        exact k2 (by rw [show tkB k (o4 (nI j) a b c e) = false from bI_0 c82]; rfl) p pR pF
theorem l_putAll2 {h0 : AH} {d bc bs n k : Nat} {s a b c e : Int32} (hk : k < 11) (hd : 3 ≤ d) (m : Nat) : ∀ (j : Nat) (h : AH) (w : Bool) (σ : CS), j + m ≤ 4 → σ.2.1 k + m ≤ 12 → RC h σ → FrC h0 h n → SW SR0 MX3_putAll d bc bs 102 [(9, .int (nI j)), (8, .int (bI w)), (7, .int (nI (j + m))), (6, .ref (102 + 2 * k)), (0, .ref 100), (1, .int s), (2, .int a), (3, .int b), (4, .int c), (5, .int e)] [] h n (CP h0 n (rI (bI (paM k a b c e j m w σ).1), (paM k a b c e j m w σ).2)) := by
  induction m with
  | zero =>
    intro j h w σ hj hm hR hF
    refine sw_iload (pc' := 104) rfl dX3_putAll_102 rfl ?_
    refine sw_iload (pc' := 106) rfl dX3_putAll_104 rfl ?_
    refine sw_icmp_ge (pc' := 109) (tgt := 137) rfl dX3_putAll_106 (by decide +kernel) (fun c106 => ?_) (fun c106 => ?_)
    · refine sw_iload (pc' := 139) rfl dX3_putAll_137 rfl ?_
      refine sw_S (M' := MX3_oneIf) (d' := d - 1) (bc' := 0) (bs' := 0) (as := [_]) dX3_putAll_139 w_277 ok_X3_oneIf (m_oneIf) (by omega) (Nat.le_of_ble_eq_true rfl) (Nat.zero_le _) (Nat.zero_le _) (fun E h' n' _ z => det_x z) (det_k ?_)
      refine sw_ret (v := some _) ⟨dX3_putAll_142, _, rfl, rfl⟩ ?_
      exact ⟨rfl, rfl, hR, hF⟩
    · exact absurd (Int32.le_refl _) c106
  | succ m ih =>
    intro j h w σ hj hm hR hF
    refine sw_iload (pc' := 104) rfl dX3_putAll_102 rfl ?_
    refine sw_iload (pc' := 106) rfl dX3_putAll_104 rfl ?_
    refine sw_icmp_ge (pc' := 109) (tgt := 137) rfl dX3_putAll_106 (by decide +kernel) (fun c106 => ?_) (fun c106 => ?_)
    · exact absurd c106 (nI_ge (by omega) (by omega))
    · refine sw_aload (pc' := 111) rfl dX3_putAll_109 rfl ?_
      refine sw_iload (pc' := 113) rfl dX3_putAll_111 rfl ?_
      refine sw_iload_n (pc' := 114) rfl dX3_putAll_113 rfl ?_
      refine sw_iload_n (pc' := 115) rfl dX3_putAll_114 rfl ?_
      refine sw_iload (pc' := 117) rfl dX3_putAll_115 rfl ?_
      refine sw_iload (pc' := 119) rfl dX3_putAll_117 rfl ?_
      refine sw_S (M' := MX3_oneOfFour) (d' := d - 1) (bc' := 0) (bs' := 0) (as := [_, _, _, _, _]) dX3_putAll_119 w_471 ok_X3_oneOfFour (m_oneOfFour) (by omega) (Nat.le_of_ble_eq_true rfl) (Nat.zero_le _) (Nat.zero_le _) (fun E h' n' _ z => det_x z) (det_k ?_)
      refine sw_V (M' := MX1_layDown) (d' := d - 1) (bc' := 0) (bs' := 0) (ci := 2) (as := [_]) dX3_putAll_122 w_443 ok_X1_layDown (m_layDown (hR.sh hk) (hR.kd kdO_r) (by omega) (by omega)) (hR.sh hk).1 rfl (by omega) (Nat.le_of_ble_eq_true rfl) (Nat.zero_le _) (Nat.zero_le _) (fun E h' n' _ z => shp_x z) (shp_k (fun p pS pF => ?_))
      refine sw_if_eq (pc' := 128) (tgt := 131) rfl dX3_putAll_125 (by decide +kernel) (fun c125 => ?_) (fun c125 => ?_)
      · refine sw_iinc (pc' := 134) (lv' := [(9, _), (8, _), (7, _), (6, _), (0, _), (1, _), (2, _), (3, _), (4, _), (5, _)]) (v := nI (j + 1)) rfl dX3_putAll_131 rfl (nI_succ j).symm (by decide +kernel) rfl ?_
        refine sw_goto (tgt := 102) dX3_putAll_134 (by decide +kernel) ?_
        have hu := ldU_c (σ := σ) (k := k) (x := (o4 (nI j) a b c e))
        have g := ih (j + 1) p (w || ldY (σ.1 k) (σ.2.1 k) (kdO k) (o4 (nI j) a b c e)) (ldU σ k (o4 (nI j) a b c e)) (by omega) (by omega) (hR.ldS hk pS pF) (hF.tr (pF.c hk) (Nat.le_refl _))
        rw [show j + 1 + m = j + (m + 1) by omega] at g
        rw [paM]
        rw [bI_0 c125, Bool.or_false] at g
        rw [bI_0 c125, Bool.or_false]
        exact g
      · refine sw_iconst (pc' := 129) (v := 1) rfl dX3_putAll_128 (by decide +kernel) ?_
        refine sw_istore (pc' := 131) (lv' := [(8, _), (9, _), (7, _), (6, _), (0, _), (1, _), (2, _), (3, _), (4, _), (5, _)]) rfl dX3_putAll_129 (by decide +kernel) rfl ?_
        refine sw_iinc (pc' := 134) (lv' := [(9, _), (8, _), (7, _), (6, _), (0, _), (1, _), (2, _), (3, _), (4, _), (5, _)]) (v := nI (j + 1)) rfl dX3_putAll_131 rfl (nI_succ j).symm (by decide +kernel) rfl ?_
        refine sw_goto (tgt := 102) dX3_putAll_134 (by decide +kernel) ?_
        have hu := ldU_c (σ := σ) (k := k) (x := (o4 (nI j) a b c e))
        have g := ih (j + 1) p (w || ldY (σ.1 k) (σ.2.1 k) (kdO k) (o4 (nI j) a b c e)) (ldU σ k (o4 (nI j) a b c e)) (by omega) (by omega) (hR.ldS hk pS pF) (hF.tr (pF.c hk) (Nat.le_refl _))
        rw [show j + 1 + m = j + (m + 1) by omega] at g
        rw [paM]
        rw [bI_1 c125, Bool.or_true] at g
        rw [bI_1 c125, Bool.or_true]
        exact g
theorem m_putAll {h : AH} {σ : CS} {d bc bs n : Nat} {s a b c e : Int32} (hR : RC h σ) (hd : 6 ≤ d) (hb1 : 20 ≤ bc) (hb2 : 200 ≤ bs) : SM SR0 MX3_putAll d bc bs [.ref 100, .int s, .int a, .int b, .int c, .int e] h n (CP h n (opPutAll σ s a b c e)) := by
  refine sm_of pn_Overwalks rfl (Nat.le_of_ble_eq_true rfl) ?_
  refine sw_aload_n (pc' := 1) rfl dX3_putAll_0 rfl ?_
  refine sw_iload_n (pc' := 2) rfl dX3_putAll_1 rfl ?_
  rcases idxN 11 (by decide +kernel) s with q2 | ⟨k2, hk2, q2⟩
  · refine sw_V (M' := MX3_shelfAt) (d' := d - 1) (bc' := 1) (bs' := 6) (ci := 4) (as := [_]) dX3_putAll_2 w_402 ok_X3_shelfAt (m_shelfAt_x hR (Nat.le_refl _) (Nat.le_refl _) q2) hR.1 rfl (by omega) (Nat.le_of_ble_eq_true rfl) (by omega) (by omega) (dx_x (swx_out rfl ?_)) (fun v h' n' _ z => dx_k z)
    rw [opPutAll, onSh_x q2]
    exact ⟨rfl, rfl, hR, FrC.rf⟩
  subst q2
  refine sw_V (M' := MX3_shelfAt) (d' := d - 1) (bc' := 1) (bs' := 6) (ci := 4) (as := [_]) dX3_putAll_2 w_402 ok_X3_shelfAt (m_shelfAt_k hR (Nat.le_refl _) (Nat.le_refl _) hk2) hR.1 rfl (by omega) (Nat.le_of_ble_eq_true rfl) (by omega) (by omega) (fun E h' n' _ z => det_x z) (det_k ?_)
  refine sw_astore (pc' := 7) (lv' := [(6, _), (0, _), (1, _), (2, _), (3, _), (4, _), (5, _)]) rfl dX3_putAll_5 (by decide +kernel) rfl ?_
  refine sw_iload_n (pc' := 8) rfl dX3_putAll_7 rfl ?_
  rcases Classical.em (a < -1 ∨ 100 < a) with q8 | q8
  · refine sw_S (M' := MX3_requireThingNothingOrNone) (d' := d - 1) (bc' := 1) (bs' := 6) (as := [_]) dX3_putAll_8 w_464 ok_X3_requireThingNothingOrNone (m_requireThingNothingOrNone_x (Nat.le_refl _) (Nat.le_refl _) q8) (by omega) (Nat.le_of_ble_eq_true rfl) (by omega) (by omega) (dx_x (swx_out rfl ?_)) (fun v h' n' _ z => dx_k z)
    rw [opPutAll, onSh_k hk2, if_pos q8]
    exact ⟨rfl, rfl, hR, FrC.rf⟩
  refine sw_S (M' := MX3_requireThingNothingOrNone) (d' := d - 1) (bc' := 1) (bs' := 6) (as := [_]) dX3_putAll_8 w_464 ok_X3_requireThingNothingOrNone (m_requireThingNothingOrNone_k (Nat.le_refl _) (Nat.le_refl _) q8) (by omega) (Nat.le_of_ble_eq_true rfl) (by omega) (by omega) (fun E h' n' _ z => det_x z) (det_k ?_)
  refine sw_iload_n (pc' := 12) rfl dX3_putAll_11 rfl ?_
  rcases Classical.em (b < -1 ∨ 100 < b) with q12 | q12
  · refine sw_S (M' := MX3_requireThingNothingOrNone) (d' := d - 1) (bc' := 1) (bs' := 6) (as := [_]) dX3_putAll_12 w_464 ok_X3_requireThingNothingOrNone (m_requireThingNothingOrNone_x (Nat.le_refl _) (Nat.le_refl _) q12) (by omega) (Nat.le_of_ble_eq_true rfl) (by omega) (by omega) (dx_x (swx_out rfl ?_)) (fun v h' n' _ z => dx_k z)
    rw [opPutAll, onSh_k hk2, if_neg q8, if_pos q12]
    exact ⟨rfl, rfl, hR, FrC.rf⟩
  refine sw_S (M' := MX3_requireThingNothingOrNone) (d' := d - 1) (bc' := 1) (bs' := 6) (as := [_]) dX3_putAll_12 w_464 ok_X3_requireThingNothingOrNone (m_requireThingNothingOrNone_k (Nat.le_refl _) (Nat.le_refl _) q12) (by omega) (Nat.le_of_ble_eq_true rfl) (by omega) (by omega) (fun E h' n' _ z => det_x z) (det_k ?_)
  refine sw_iload (pc' := 17) rfl dX3_putAll_15 rfl ?_
  rcases Classical.em (c < -1 ∨ 100 < c) with q17 | q17
  · refine sw_S (M' := MX3_requireThingNothingOrNone) (d' := d - 1) (bc' := 1) (bs' := 6) (as := [_]) dX3_putAll_17 w_464 ok_X3_requireThingNothingOrNone (m_requireThingNothingOrNone_x (Nat.le_refl _) (Nat.le_refl _) q17) (by omega) (Nat.le_of_ble_eq_true rfl) (by omega) (by omega) (dx_x (swx_out rfl ?_)) (fun v h' n' _ z => dx_k z)
    rw [opPutAll, onSh_k hk2, if_neg q8, if_neg q12, if_pos q17]
    exact ⟨rfl, rfl, hR, FrC.rf⟩
  refine sw_S (M' := MX3_requireThingNothingOrNone) (d' := d - 1) (bc' := 1) (bs' := 6) (as := [_]) dX3_putAll_17 w_464 ok_X3_requireThingNothingOrNone (m_requireThingNothingOrNone_k (Nat.le_refl _) (Nat.le_refl _) q17) (by omega) (Nat.le_of_ble_eq_true rfl) (by omega) (by omega) (fun E h' n' _ z => det_x z) (det_k ?_)
  refine sw_iload (pc' := 22) rfl dX3_putAll_20 rfl ?_
  rcases Classical.em (e < -1 ∨ 100 < e) with q22 | q22
  · refine sw_S (M' := MX3_requireThingNothingOrNone) (d' := d - 1) (bc' := 1) (bs' := 6) (as := [_]) dX3_putAll_22 w_464 ok_X3_requireThingNothingOrNone (m_requireThingNothingOrNone_x (Nat.le_refl _) (Nat.le_refl _) q22) (by omega) (Nat.le_of_ble_eq_true rfl) (by omega) (by omega) (dx_x (swx_out rfl ?_)) (fun v h' n' _ z => dx_k z)
    rw [opPutAll, onSh_k hk2, if_neg q8, if_neg q12, if_neg q17, if_pos q22]
    exact ⟨rfl, rfl, hR, FrC.rf⟩
  refine sw_S (M' := MX3_requireThingNothingOrNone) (d' := d - 1) (bc' := 1) (bs' := 6) (as := [_]) dX3_putAll_22 w_464 ok_X3_requireThingNothingOrNone (m_requireThingNothingOrNone_k (Nat.le_refl _) (Nat.le_refl _) q22) (by omega) (Nat.le_of_ble_eq_true rfl) (by omega) (by omega) (fun E h' n' _ z => det_x z) (det_k ?_)
  refine sw_iload_n (pc' := 26) rfl dX3_putAll_25 rfl ?_
  refine sw_iload_n (pc' := 27) rfl dX3_putAll_26 rfl ?_
  refine sw_iload (pc' := 29) rfl dX3_putAll_27 rfl ?_
  refine sw_iload (pc' := 31) rfl dX3_putAll_29 rfl ?_
  refine sw_S (M' := MX3_countToFirstNone) (d' := d - 1) (bc' := 0) (bs' := 0) (as := [_, _, _, _]) dX3_putAll_31 w_468 ok_X3_countToFirstNone (m_countToFirstNone (by omega)) (by omega) (Nat.le_of_ble_eq_true rfl) (Nat.zero_le _) (Nat.zero_le _) (fun E h' n' _ z => det_x z) (det_k ?_)
  refine sw_istore (pc' := 36) (lv' := [(7, _), (6, _), (0, _), (1, _), (2, _), (3, _), (4, _), (5, _)]) rfl dX3_putAll_34 (by decide +kernel) rfl ?_
  refine sw_aload (pc' := 38) rfl dX3_putAll_36 rfl ?_
  refine sw_iload (pc' := 40) rfl dX3_putAll_38 rfl ?_
  rcases Classical.em (12 < nI (σ.2.1 k2) + nI (cfN a b c e 0 4)) with q40 | q40
  · refine sw_S (M' := MX3_requireRoom) (d' := d - 1) (bc' := 1) (bs' := 6) (as := [_, _]) dX3_putAll_40 w_411 ok_X3_requireRoom (m_requireRoom_x (hR.sh hk2) (Nat.le_refl _) (Nat.le_refl _) q40) (by omega) (Nat.le_of_ble_eq_true rfl) (by omega) (by omega) (dx_x (swx_out rfl ?_)) (fun v h' n' _ z => dx_k z)
    rw [opPutAll, onSh_k hk2, if_neg q8, if_neg q12, if_neg q17, if_neg q22, if_pos q40]
    exact ⟨rfl, rfl, hR, FrC.rf⟩
  refine sw_S (M' := MX3_requireRoom) (d' := d - 1) (bc' := 1) (bs' := 6) (as := [_, _]) dX3_putAll_40 w_411 ok_X3_requireRoom (m_requireRoom_k (hR.sh hk2) (Nat.le_refl _) (Nat.le_refl _) q40) (by omega) (Nat.le_of_ble_eq_true rfl) (by omega) (by omega) (fun E h' n' _ z => det_x z) (det_k ?_)
  refine sw_aload (pc' := 45) rfl dX3_putAll_43 rfl ?_
  refine sw_V (M' := MX1_isOfTable) (d' := d - 1) (bc' := 0) (bs' := 0) (ci := 2) (as := []) dX3_putAll_45 w_430 ok_X1_isOfTable (m_isOfTable (hR.sh hk2) kdO_r) (hR.sh hk2).1 rfl (by omega) (Nat.le_of_ble_eq_true rfl) (by omega) (by omega) (fun E h' n' _ z => det_x z) (det_k ?_)
  refine sw_if_eq (pc' := 51) (tgt := 56) rfl dX3_putAll_48 (by decide +kernel) (fun c48 => ?_) (fun c48 => ?_)
  · refine sw_iconst (pc' := 57) (v := 0) rfl dX3_putAll_56 (by decide +kernel) ?_
    refine sw_istore (pc' := 59) (lv' := [(8, _), (7, _), (6, _), (0, _), (1, _), (2, _), (3, _), (4, _), (5, _)]) rfl dX3_putAll_57 (by decide +kernel) rfl ?_
    have hcf := (cfN_le (a := a) (b := b) (c := c) (e := e) (m := 4) (j := 0)).2
    have hrm := nI_room (hR.sh hk2).2.2.1 (by omega) q40
    rw [opPutAll, onSh_k hk2, if_neg q8, if_neg q12, if_neg q17, if_neg q22, if_neg q40, if_neg (of_decide_eq_false (bI_0 c48))]
    refine l_putAll1 hR hk2 (by omega) (by omega) (cfN a b c e 0 4) 0 (by omega) (fun e1 => ?_) (fun e1 p pR pF => ?_)
    · rw [if_neg (by rw [e1]; decide)]
      refine sw_iconst (pc' := 97) (v := 0) rfl dX3_putAll_96 (by decide +kernel) ?_
      refine sw_istore (pc' := 99) (lv' := [(8, _), (7, _), (6, _), (0, _), (1, _), (2, _), (3, _), (4, _), (5, _)]) rfl dX3_putAll_97 (by decide +kernel) rfl ?_
      refine sw_iconst (pc' := 100) (v := 0) rfl dX3_putAll_99 (by decide +kernel) ?_
      refine sw_istore (pc' := 102) (lv' := [(9, _), (8, _), (7, _), (6, _), (0, _), (1, _), (2, _), (3, _), (4, _), (5, _)]) rfl dX3_putAll_100 (by decide +kernel) rfl ?_
      have g := l_putAll2 (h0 := h) (d := d) (bc := bc - 1 - 1 - 1 - 1 - 1 - 1) (bs := bs - 6 - 6 - 6 - 6 - 6 - 6) (n := n) (s := nI k2) (a := a) (b := b) (c := c) (e := e) hk2 (by omega) (cfN a b c e 0 4) 0 h false σ (by omega) hrm hR FrC.rf
      rw [Nat.zero_add] at g
      exact g
    · rw [if_pos e1]
      exact ⟨rfl, rfl, pR, pF⟩
  · refine sw_aload_n (pc' := 52) rfl dX3_putAll_51 rfl ?_
    refine sw_V (M' := MX3_refuse) (d' := d - 1) (bc' := 0) (bs' := 0) (ci := 4) (as := []) dX3_putAll_52 w_439 ok_X3_refuse (m_refuse hR) hR.1 rfl (by omega) (Nat.le_of_ble_eq_true rfl) (by omega) (by omega) (fun E h' n' _ z => cp_x z) (cp_k (fun p52 p52R p52F => ?_))
    refine sw_ret (v := some _) ⟨dX3_putAll_55, _, rfl, rfl⟩ ?_
    rw [opPutAll, onSh_k hk2, if_neg q8, if_neg q12, if_neg q17, if_neg q22, if_neg q40, if_pos (of_decide_eq_true (bI_1 c48))]
    exact ⟨rfl, rfl, p52R, p52F⟩
