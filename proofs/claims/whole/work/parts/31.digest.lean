/-! digest; house and ofWalk where they throw nothing -/
def hoV (σ : CS) (x : Int32) : Int32 := if x = 0 then cnT σ else if x = 1 then cnN σ else if x = 2 then cnW σ else if x = 3 then cnS σ else if x = 4 then σ.2.2.2.2.2.1 else σ.2.2.2.2.2.2
def owV (σ : CS) (k : Nat) (x : Int32) : Int32 := if (σ.2.2.2.2.1 k).1 = false then -1 else if x = 0 then nI (wO σ k) else if x = 1 then (σ.2.2.2.2.1 k).2.2.1 else if x = 2 then (σ.2.2.2.2.1 k).2.2.2.1 else bI (wSt σ k)
def dgN (g : Nat → Int32) : Nat → Nat → Int64 → Int64
  | _, 0, v => v
  | j, m + 1, v => dgN g (j + 1) m (v * 31 + (g j).toInt64)
def dgS (σ : CS) : Nat → Nat → Int64 → Int64
  | _, 0, v => v
  | k, m + 1, v => dgS σ (k + 1) m (dgN (σ.1 k) 0 (σ.2.1 k) (v * 31 + (nI (σ.2.1 k)).toInt64))
def dgW (σ : CS) : Nat → Nat → Int64 → Int64
  | _, 0, v => v
  | k, m + 1, v => dgW σ (k + 1) m (dgN (fun x => owV σ k (nI x)) 0 4 v)
theorem in6 {x : Int32} (h : ¬ (x < 0 ∨ 5 < x)) (q : x.toInt < 0 ∨ 5 < x.toInt) : False := h (q.imp (fun e => Int32.lt_iff_toInt_lt.mpr e) (fun e => Int32.lt_iff_toInt_lt.mpr e))
theorem nin {N j : Nat} (hN : N < 2 ^ 31) (h : j ≤ N) : ¬ (nI j < 0 ∨ nI N < nI j) := fun q => q.elim (nI_pos (by omega)) (nI_nlt h (by omega))
theorem m_houseK {h : AH} {σ : CS} {d bc bs n : Nat} {x : Int32} (hR : RC h σ) (hd : 3 ≤ d) (hx : ¬ (x < 0 ∨ 5 < x)) : SM SR0 MX3_house d bc bs [.ref 100, .int x] h n (Det (rI (hoV σ x)) h n) := by
  refine sm_of pn_Overwalks rfl (Nat.le_of_ble_eq_true rfl) ?_
  refine sw_iload_n (pc' := 1) rfl dX3_house_0 rfl ?_
  rcases Classical.em (x = 0) with t1_0 | t1_0
  · refine sw_tableIn (tgt := 40) dX3_house_1 (by rw [t1_0]; decide) (by rw [t1_0]; decide) (by rw [t1_0]; rfl) (by decide +kernel) ?_
    refine sw_aload_n (pc' := 41) rfl dX3_house_40 rfl ?_
    refine sw_V (M' := MX3_countThings) (d' := d - 1) (bc' := 0) (bs' := 0) (ci := 4) (as := []) dX3_house_41 w_261 ok_X3_countThings (m_countThings hR (by omega)) hR.1 rfl (by omega) (Nat.le_of_ble_eq_true rfl) (Nat.zero_le _) (Nat.zero_le _) (fun E h' n' _ z => det_x z) (det_k ?_)
    refine sw_ret (v := some _) ⟨dX3_house_44, _, rfl, rfl⟩ ?_
    exact ⟨by rw [hoV, if_pos t1_0]; rfl, rfl, rfl⟩
  rcases Classical.em (x = 1) with t1_1 | t1_1
  · refine sw_tableIn (tgt := 45) dX3_house_1 (by rw [t1_1]; decide) (by rw [t1_1]; decide) (by rw [t1_1]; rfl) (by decide +kernel) ?_
    refine sw_aload_n (pc' := 46) rfl dX3_house_45 rfl ?_
    refine sw_V (M' := MX3_countNothings) (d' := d - 1) (bc' := 0) (bs' := 0) (ci := 4) (as := []) dX3_house_46 w_265 ok_X3_countNothings (m_countNothings hR (by omega)) hR.1 rfl (by omega) (Nat.le_of_ble_eq_true rfl) (Nat.zero_le _) (Nat.zero_le _) (fun E h' n' _ z => det_x z) (det_k ?_)
    refine sw_ret (v := some _) ⟨dX3_house_49, _, rfl, rfl⟩ ?_
    exact ⟨by rw [hoV, if_neg t1_0, if_pos t1_1]; rfl, rfl, rfl⟩
  rcases Classical.em (x = 2) with t1_2 | t1_2
  · refine sw_tableIn (tgt := 50) dX3_house_1 (by rw [t1_2]; decide) (by rw [t1_2]; decide) (by rw [t1_2]; rfl) (by decide +kernel) ?_
    refine sw_aload_n (pc' := 51) rfl dX3_house_50 rfl ?_
    refine sw_V (M' := MX3_countWalks) (d' := d - 1) (bc' := 0) (bs' := 0) (ci := 4) (as := []) dX3_house_51 w_273 ok_X3_countWalks (m_countWalks hR (by omega)) hR.1 rfl (by omega) (Nat.le_of_ble_eq_true rfl) (Nat.zero_le _) (Nat.zero_le _) (fun E h' n' _ z => det_x z) (det_k ?_)
    refine sw_ret (v := some _) ⟨dX3_house_54, _, rfl, rfl⟩ ?_
    exact ⟨by rw [hoV, if_neg t1_0, if_neg t1_1, if_pos t1_2]; rfl, rfl, rfl⟩
  rcases Classical.em (x = 3) with t1_3 | t1_3
  · refine sw_tableIn (tgt := 55) dX3_house_1 (by rw [t1_3]; decide) (by rw [t1_3]; decide) (by rw [t1_3]; rfl) (by decide +kernel) ?_
    refine sw_aload_n (pc' := 56) rfl dX3_house_55 rfl ?_
    refine sw_V (M' := MX3_countStaleWalks) (d' := d - 1) (bc' := 0) (bs' := 0) (ci := 4) (as := []) dX3_house_56 w_280 ok_X3_countStaleWalks (m_countStaleWalks hR (by omega)) hR.1 rfl (by omega) (Nat.le_of_ble_eq_true rfl) (Nat.zero_le _) (Nat.zero_le _) (fun E h' n' _ z => det_x z) (det_k ?_)
    refine sw_ret (v := some _) ⟨dX3_house_59, _, rfl, rfl⟩ ?_
    exact ⟨by rw [hoV, if_neg t1_0, if_neg t1_1, if_neg t1_2, if_pos t1_3]; rfl, rfl, rfl⟩
  rcases Classical.em (x = 4) with t1_4 | t1_4
  · refine sw_tableIn (tgt := 60) dX3_house_1 (by rw [t1_4]; decide) (by rw [t1_4]; decide) (by rw [t1_4]; rfl) (by decide +kernel) ?_
    refine sw_aload_n (pc' := 61) rfl dX3_house_60 rfl ?_
    refine sw_getf (ci := 4) (k := 5) (pc' := 64) rfl dX3_house_61 (by decide +kernel) w_155 hR.1 rfl ?_
    refine sw_ret (v := some _) ⟨dX3_house_64, _, rfl, rfl⟩ ?_
    exact ⟨by rw [hoV, if_neg t1_0, if_neg t1_1, if_neg t1_2, if_neg t1_3, if_pos t1_4]; rfl, rfl, rfl⟩
  rcases Classical.em (x = 5) with t1_5 | t1_5
  · refine sw_tableIn (tgt := 65) dX3_house_1 (by rw [t1_5]; decide) (by rw [t1_5]; decide) (by rw [t1_5]; rfl) (by decide +kernel) ?_
    refine sw_aload_n (pc' := 66) rfl dX3_house_65 rfl ?_
    refine sw_getf (ci := 4) (k := 6) (pc' := 69) rfl dX3_house_66 (by decide +kernel) w_156 hR.1 rfl ?_
    refine sw_ret (v := some _) ⟨dX3_house_69, _, rfl, rfl⟩ ?_
    exact ⟨by rw [hoV, if_neg t1_0, if_neg t1_1, if_neg t1_2, if_neg t1_3, if_neg t1_4]; rfl, rfl, rfl⟩
  exact (in6 hx (ts6 t1_0 t1_1 t1_2 t1_3 t1_4 t1_5)).elim
theorem m_ofWalkK {h : AH} {σ : CS} {d bc bs n k : Nat} {x : Int32} (hR : RC h σ) (hk : k < 6) (h1 : 1 ≤ bc) (h2 : 6 ≤ bs) (hd : 3 ≤ d) (hx : ¬ (x < 0 ∨ 3 < x)) : SM SR0 MX3_ofWalk d bc bs [.ref 100, .int (nI k), .int x] h n (Det (rI (owV σ k x)) h n) := by
  refine sm_of pn_Overwalks rfl (Nat.le_of_ble_eq_true rfl) ?_
  refine sw_aload_n (pc' := 1) rfl dX3_ofWalk_0 rfl ?_
  refine sw_iload_n (pc' := 2) rfl dX3_ofWalk_1 rfl ?_
  refine sw_V (M' := MX3_walkAt) (d' := d - 1) (bc' := 1) (bs' := 6) (ci := 4) (as := [_]) dX3_ofWalk_2 w_357 ok_X3_walkAt (m_walkAt_k hR (Nat.le_refl _) (Nat.le_refl _) hk) hR.1 rfl (by omega) (Nat.le_of_ble_eq_true rfl) h1 h2 (fun E h' n' _ z => det_x z) (det_k ?_)
  refine sw_astore_n (pc' := 6) (lv' := [(3, _), (0, _), (1, _), (2, _)]) rfl dX3_ofWalk_5 (by decide +kernel) rfl ?_
  refine sw_iload_n (pc' := 7) rfl dX3_ofWalk_6 rfl ?_
  refine sw_if_lt (pc' := 10) (tgt := 15) rfl dX3_ofWalk_7 (by decide +kernel) (fun c7 => ?_) (fun c7 => ?_)
  · exact (hx (Or.inl c7)).elim
  · refine sw_iload_n (pc' := 11) rfl dX3_ofWalk_10 rfl ?_
    refine sw_iconst (pc' := 12) (v := 3) rfl dX3_ofWalk_11 (by decide +kernel) ?_
    refine sw_icmp_le (pc' := 15) (tgt := 26) rfl dX3_ofWalk_12 (by decide +kernel) (fun c12 => ?_) (fun c12 => ?_)
    · refine sw_aload_n (pc' := 27) rfl dX3_ofWalk_26 rfl ?_
      refine sw_getf (ci := 3) (k := 0) (pc' := 30) rfl dX3_ofWalk_27 (by decide +kernel) w_118 (hR.wk hk).2.1 rfl ?_
      refine sw_if_ne (pc' := 33) (tgt := 35) rfl dX3_ofWalk_30 (by decide +kernel) (fun c30 => ?_) (fun c30 => ?_)
      · refine sw_iload_n (pc' := 36) rfl dX3_ofWalk_35 rfl ?_
        rcases Classical.em (x = 0) with t36_0 | t36_0
        · refine sw_tableIn (tgt := 64) dX3_ofWalk_36 (by rw [t36_0]; decide) (by rw [t36_0]; decide) (by rw [t36_0]; rfl) (by decide +kernel) ?_
          refine sw_aload_n (pc' := 65) rfl dX3_ofWalk_64 rfl ?_
          refine sw_getf (ci := 3) (k := 2) (pc' := 68) rfl dX3_ofWalk_65 (by decide +kernel) w_122 (hR.wk hk).2.1 rfl ?_
          refine sw_ret (v := some _) ⟨dX3_ofWalk_68, _, rfl, rfl⟩ ?_
          exact ⟨by rw [owV, if_neg (fun e : (σ.2.2.2.2.1 k).1 = false => by rw [e] at c30; exact c30 rfl), if_pos t36_0]; rfl, rfl, rfl⟩
        rcases Classical.em (x = 1) with t36_1 | t36_1
        · refine sw_tableIn (tgt := 69) dX3_ofWalk_36 (by rw [t36_1]; decide) (by rw [t36_1]; decide) (by rw [t36_1]; rfl) (by decide +kernel) ?_
          refine sw_aload_n (pc' := 70) rfl dX3_ofWalk_69 rfl ?_
          refine sw_getf (ci := 3) (k := 3) (pc' := 73) rfl dX3_ofWalk_70 (by decide +kernel) w_124 (hR.wk hk).2.1 rfl ?_
          refine sw_ret (v := some _) ⟨dX3_ofWalk_73, _, rfl, rfl⟩ ?_
          exact ⟨by rw [owV, if_neg (fun e : (σ.2.2.2.2.1 k).1 = false => by rw [e] at c30; exact c30 rfl), if_neg t36_0, if_pos t36_1]; rfl, rfl, rfl⟩
        rcases Classical.em (x = 2) with t36_2 | t36_2
        · refine sw_tableIn (tgt := 74) dX3_ofWalk_36 (by rw [t36_2]; decide) (by rw [t36_2]; decide) (by rw [t36_2]; rfl) (by decide +kernel) ?_
          refine sw_aload_n (pc' := 75) rfl dX3_ofWalk_74 rfl ?_
          refine sw_getf (ci := 3) (k := 4) (pc' := 78) rfl dX3_ofWalk_75 (by decide +kernel) w_126 (hR.wk hk).2.1 rfl ?_
          refine sw_ret (v := some _) ⟨dX3_ofWalk_78, _, rfl, rfl⟩ ?_
          exact ⟨by rw [owV, if_neg (fun e : (σ.2.2.2.2.1 k).1 = false => by rw [e] at c30; exact c30 rfl), if_neg t36_0, if_neg t36_1, if_pos t36_2]; rfl, rfl, rfl⟩
        refine sw_tableOut (tgt := 79) dX3_ofWalk_36 (ts3 t36_0 t36_1 t36_2) (by decide +kernel) ?_
        refine sw_aload_n (pc' := 80) rfl dX3_ofWalk_79 rfl ?_
        refine sw_V (M' := MX2_isStale) (d' := d - 1) (bc' := 0) (bs' := 0) (ci := 3) (as := []) dX3_ofWalk_80 w_284 ok_X2_isStale (m_isStale (hR.wk hk).2 (hR.sh (hR.wk hk).1)) (hR.wk hk).2.1 rfl (by omega) (Nat.le_of_ble_eq_true rfl) (Nat.zero_le _) (Nat.zero_le _) (fun E h' n' _ z => det_x z) (det_k ?_)
        refine sw_S (M' := MX3_oneIf) (d' := d - 1) (bc' := 0) (bs' := 0) (as := [_]) dX3_ofWalk_83 w_277 ok_X3_oneIf (m_oneIf) (by omega) (Nat.le_of_ble_eq_true rfl) (Nat.zero_le _) (Nat.zero_le _) (fun E h' n' _ z => det_x z) (det_k ?_)
        refine sw_ret (v := some _) ⟨dX3_ofWalk_86, _, rfl, rfl⟩ ?_
        exact ⟨by rw [owV, if_neg (fun e : (σ.2.2.2.2.1 k).1 = false => by rw [e] at c30; exact c30 rfl), if_neg t36_0, if_neg t36_1, if_neg t36_2]; rfl, rfl, rfl⟩
      · refine sw_iconst (pc' := 34) (v := (-1)) rfl dX3_ofWalk_33 (by decide +kernel) ?_
        refine sw_ret (v := some _) ⟨dX3_ofWalk_34, _, rfl, rfl⟩ ?_
        exact ⟨by rw [owV, if_pos (bI_0 c30)]; rfl, rfl, rfl⟩
    · exact (hx (Or.inr (Int32.not_le.mp c12))).elim
