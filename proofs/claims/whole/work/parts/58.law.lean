/-! the law -/
theorem and63 (x : Int32) : ∃ k, k < 64 ∧ x &&& 63 = nI k := by
  refine ⟨(x &&& 63).toBitVec.toNat, ?_, ?_⟩
  · rw [Int32.toBitVec_and]
    show (x.toBitVec &&& 63#32).toNat < 64
    rw [BitVec.toNat_and]
    exact Nat.lt_of_le_of_lt Nat.and_le_right (by decide +kernel)
  · apply Int32.toBitVec_inj.mp
    show _ = BitVec.ofNat 32 _
    rw [BitVec.ofNat_toNat, BitVec.setWidth_eq]
theorem sub6 {L i : Nat} (hL : L ≤ 3072) (hi : i ≤ 4000) : nI L - 6 < nI i ↔ L < i + 6 := by
  rw [Int32.lt_iff_toInt_lt, Int32.toInt_sub, show (nI L).toInt = (L : Int) from nI_toInt (by omega), show (nI i).toInt = (i : Int) from nI_toInt (by omega), show (6 : Int32).toInt = 6 from rfl, Int.bmod_eq_of_le (by omega) (by omega)]
  omega
theorem LI.up {L : Nat} {xs : Nat → Int32} {h : AH} {n N : Nat} {σ : CS} (hI : LI L xs h n σ N) : LI L xs h n σ (N + 12) := ⟨hI.1, hI.2.1, hI.2.2.1, hI.2.2.2.1.mono (by omega), hI.2.2.2.2⟩
theorem ll_loop {L d : Nat} {xs : Nat → Int32} {Post : ARes → AH → Nat → Prop} (hL : L ≤ 3072) (hd : 20 ≤ d) (hP : ∀ h n, Post (.inl (some (.int 1))) h n) (m : Nat) : ∀ (i n N bc bs : Nat) (h : AH) (σ : CS), LI L xs h n σ N → N + 12 * m < 2 ^ 31 → L < i + 6 * m + 6 → i ≤ L + 6 → 380 * m ≤ bc → 4500 * m ≤ bs → SW SR0 ML_law d bc bs 27 [(4, .int (nI i)), (3, .ref 158), (2, .ref 135), (1, .ref 100), (0, .ref 0)] [] h n Post := by
  induction m with
  | zero =>
    intro i n N bc bs h σ hI hN hm hi h1 h2
    have hs := hI.2.2.2.2.2.1
    refine sw_iload (pc' := 29) rfl dL_law_27 rfl ?_
    refine sw_aload_n (pc' := 30) rfl dL_law_29 rfl ?_
    refine sw_alen (pc' := 31) rfl dL_law_30 hs (by decide +kernel) (Or.inr ⟨by decide +kernel, _, rfl⟩) ?_
    refine sw_bipush (pc' := 33) (v := 6) rfl dL_law_31 (by decide +kernel) ?_
    refine sw_isub (pc' := 34) rfl dL_law_33 ?_
    refine sw_icmp_gt (pc' := 37) (tgt := 3129) rfl dL_law_34 (by decide +kernel) (fun c34 => ?_) (fun c34 => ?_)
    · refine sw_iconst (pc' := 3130) (v := 1) rfl dL_law_3129 (by decide +kernel) ?_
      refine sw_ret (v := some _) ⟨dL_law_3130, _, rfl, rfl⟩ ?_
      exact hP _ _
    · exact absurd ((sub6 hL (by omega)).mpr (by omega)) c34
  | succ m ih =>
    intro i n N bc bs h σ hI hN hm hi h1 h2
    have hs := hI.2.2.2.2.2.1
    by_cases q : i + 6 ≤ L
    · have K : ∀ (h' : AH) (n' : Nat) (σ' : CS), n ≤ n' → LI L xs h' n' σ' (N + 12) → SW SR0 ML_law d (bc - 380) (bs - 4500) 3123 [(4, .int (nI i)), (3, .ref 158), (2, .ref 135), (1, .ref 100), (0, .ref 0)] [] h' n' Post := by
        intro h' n' σ' hn J
        have hs := J.2.2.2.2.2.1
        refine sw_iinc (pc' := 3126) (lv' := [(4, _), (3, _), (2, _), (1, _), (0, _)]) (v := nI (i + 6)) rfl dL_law_3123 rfl (nI_add i 6) (by decide +kernel) rfl ?_
        refine sw_goto (tgt := 27) dL_law_3126 (by decide +kernel) ?_
        exact ih (i + 6) n' (N + 12) _ _ h' σ' J (by omega) (by omega) (by omega) (by omega) (by omega)
      refine sw_iload (pc' := 29) rfl dL_law_27 rfl ?_
      refine sw_aload_n (pc' := 30) rfl dL_law_29 rfl ?_
      refine sw_alen (pc' := 31) rfl dL_law_30 hs (by decide +kernel) (Or.inr ⟨by decide +kernel, _, rfl⟩) ?_
      refine sw_bipush (pc' := 33) (v := 6) rfl dL_law_31 (by decide +kernel) ?_
      refine sw_isub (pc' := 34) rfl dL_law_33 ?_
      refine sw_icmp_gt (pc' := 37) (tgt := 3129) rfl dL_law_34 (by decide +kernel) (fun c34 => ?_) (fun c34 => ?_)
      · exact absurd ((sub6 hL (by omega)).mp c34) (by omega)
      · refine sw_aload_n (pc' := 38) rfl dL_law_37 rfl ?_
        refine sw_iload (pc' := 40) rfl dL_law_38 rfl ?_
        refine sw_iald (j := i) (pc' := 41) rfl dL_law_40 hs rfl (by omega) (by omega) ?_
        refine sw_bipush (pc' := 43) (v := 63) rfl dL_law_41 (by decide +kernel) ?_
        refine sw_iand (pc' := 44) rfl dL_law_43 ?_
        obtain ⟨k, hk, ek⟩ := and63 (xs i)
        rw [ek]
        by_cases k9 : k < 44
        · rcases (show k = 0 ∨ k = 1 ∨ k = 2 ∨ k = 3 ∨ k = 4 ∨ k = 5 ∨ k = 6 ∨ k = 7 ∨ k = 8 ∨ k = 9 ∨ k = 10 ∨ k = 11 ∨ k = 12 ∨ k = 13 ∨ k = 14 ∨ k = 15 ∨ k = 16 ∨ k = 17 ∨ k = 18 ∨ k = 19 ∨ k = 20 ∨ k = 21 ∨ k = 22 ∨ k = 23 ∨ k = 24 ∨ k = 25 ∨ k = 26 ∨ k = 27 ∨ k = 28 ∨ k = 29 ∨ k = 30 ∨ k = 31 ∨ k = 32 ∨ k = 33 ∨ k = 34 ∨ k = 35 ∨ k = 36 ∨ k = 37 ∨ k = 38 ∨ k = 39 ∨ k = 40 ∨ k = 41 ∨ k = 42 ∨ k = 43 by omega) with rfl | rfl | rfl | rfl | rfl | rfl | rfl | rfl | rfl | rfl | rfl | rfl | rfl | rfl | rfl | rfl | rfl | rfl | rfl | rfl | rfl | rfl | rfl | rfl | rfl | rfl | rfl | rfl | rfl | rfl | rfl | rfl | rfl | rfl | rfl | rfl | rfl | rfl | rfl | rfl | rfl | rfl | rfl | rfl
          · refine sw_tableIn (tgt := 236) dL_law_44 (by decide +kernel) (by decide +kernel) (by rfl) (by decide +kernel) ?_
            exact lc_0 hI (by omega) hL q hd (by omega) (by omega) K
          · refine sw_tableIn (tgt := 305) dL_law_44 (by decide +kernel) (by decide +kernel) (by rfl) (by decide +kernel) ?_
            exact lc_1 hI (by omega) hL q hd (by omega) (by omega) K
          · refine sw_tableIn (tgt := 410) dL_law_44 (by decide +kernel) (by decide +kernel) (by rfl) (by decide +kernel) ?_
            exact lc_2 hI (by omega) hL q hd (by omega) (by omega) K
          · refine sw_tableIn (tgt := 479) dL_law_44 (by decide +kernel) (by decide +kernel) (by rfl) (by decide +kernel) ?_
            exact lc_3 hI (by omega) hL q hd (by omega) (by omega) K
          · refine sw_tableIn (tgt := 536) dL_law_44 (by decide +kernel) (by decide +kernel) (by rfl) (by decide +kernel) ?_
            exact lc_4 hI (by omega) hL q hd (by omega) (by omega) K
          · refine sw_tableIn (tgt := 605) dL_law_44 (by decide +kernel) (by decide +kernel) (by rfl) (by decide +kernel) ?_
            exact lc_5 hI (by omega) hL q hd (by omega) (by omega) K
          · refine sw_tableIn (tgt := 674) dL_law_44 (by decide +kernel) (by decide +kernel) (by rfl) (by decide +kernel) ?_
            exact lc_6 hI (by omega) hL q hd (by omega) (by omega) K
          · refine sw_tableIn (tgt := 755) dL_law_44 (by decide +kernel) (by decide +kernel) (by rfl) (by decide +kernel) ?_
            exact lc_7 hI (by omega) hL q hd (by omega) (by omega) K
          · refine sw_tableIn (tgt := 836) dL_law_44 (by decide +kernel) (by decide +kernel) (by rfl) (by decide +kernel) ?_
            exact lc_8 hI (by omega) hL q hd (by omega) (by omega) K
          · refine sw_tableIn (tgt := 905) dL_law_44 (by decide +kernel) (by decide +kernel) (by rfl) (by decide +kernel) ?_
            exact lc_9 hI (by omega) hL q hd (by omega) (by omega) K
          · refine sw_tableIn (tgt := 962) dL_law_44 (by decide +kernel) (by decide +kernel) (by rfl) (by decide +kernel) ?_
            exact lc_10 hI (by omega) hL q hd (by omega) (by omega) K
          · refine sw_tableIn (tgt := 1031) dL_law_44 (by decide +kernel) (by decide +kernel) (by rfl) (by decide +kernel) ?_
            exact lc_11 hI (by omega) hL q hd (by omega) (by omega) K
          · refine sw_tableIn (tgt := 1112) dL_law_44 (by decide +kernel) (by decide +kernel) (by rfl) (by decide +kernel) ?_
            exact lc_12 hI (by omega) hL q hd (by omega) (by omega) K
          · refine sw_tableIn (tgt := 1181) dL_law_44 (by decide +kernel) (by decide +kernel) (by rfl) (by decide +kernel) ?_
            exact lc_13 hI (by omega) hL q hd (by omega) (by omega) K
          · refine sw_tableIn (tgt := 1262) dL_law_44 (by decide +kernel) (by decide +kernel) (by rfl) (by decide +kernel) ?_
            exact lc_14 hI (by omega) hL q hd (by omega) (by omega) K
          · refine sw_tableIn (tgt := 1343) dL_law_44 (by decide +kernel) (by decide +kernel) (by rfl) (by decide +kernel) ?_
            exact lc_15 hI (by omega) hL q hd (by omega) (by omega) K
          · refine sw_tableIn (tgt := 1424) dL_law_44 (by decide +kernel) (by decide +kernel) (by rfl) (by decide +kernel) ?_
            exact lc_16 hI (by omega) hL q hd (by omega) (by omega) K
          · refine sw_tableIn (tgt := 1481) dL_law_44 (by decide +kernel) (by decide +kernel) (by rfl) (by decide +kernel) ?_
            exact lc_17 hI (by omega) hL q hd (by omega) (by omega) K
          · refine sw_tableIn (tgt := 1538) dL_law_44 (by decide +kernel) (by decide +kernel) (by rfl) (by decide +kernel) ?_
            exact lc_18 hI (by omega) hL q hd (by omega) (by omega) K
          · refine sw_tableIn (tgt := 1595) dL_law_44 (by decide +kernel) (by decide +kernel) (by rfl) (by decide +kernel) ?_
            exact lc_19 hI (by omega) hL q hd (by omega) (by omega) K
          · refine sw_tableIn (tgt := 1653) dL_law_44 (by decide +kernel) (by decide +kernel) (by rfl) (by decide +kernel) ?_
            exact lc_20 hI (by omega) hL q hd (by omega) (by omega) K
          · refine sw_tableIn (tgt := 1722) dL_law_44 (by decide +kernel) (by decide +kernel) (by rfl) (by decide +kernel) ?_
            exact lc_21 hI (by omega) hL q hd (by omega) (by omega) K
          · refine sw_tableIn (tgt := 1791) dL_law_44 (by decide +kernel) (by decide +kernel) (by rfl) (by decide +kernel) ?_
            exact lc_22 hI (by omega) hL q hd (by omega) (by omega) K
          · refine sw_tableIn (tgt := 1848) dL_law_44 (by decide +kernel) (by decide +kernel) (by rfl) (by decide +kernel) ?_
            exact lc_23 hI (by omega) hL q hd (by omega) (by omega) K
          · refine sw_tableIn (tgt := 1917) dL_law_44 (by decide +kernel) (by decide +kernel) (by rfl) (by decide +kernel) ?_
            exact lc_24 hI (by omega) hL q hd (by omega) (by omega) K
          · refine sw_tableIn (tgt := 1986) dL_law_44 (by decide +kernel) (by decide +kernel) (by rfl) (by decide +kernel) ?_
            exact lc_25 hI (by omega) hL q hd (by omega) (by omega) K
          · refine sw_tableIn (tgt := 2056) dL_law_44 (by decide +kernel) (by decide +kernel) (by rfl) (by decide +kernel) ?_
            exact lc_26 hI (by omega) hL q hd (by omega) (by omega) K
          · refine sw_tableIn (tgt := 2114) dL_law_44 (by decide +kernel) (by decide +kernel) (by rfl) (by decide +kernel) ?_
            exact lc_27 hI (by omega) hL q hd (by omega) (by omega) K
          · refine sw_tableIn (tgt := 2172) dL_law_44 (by decide +kernel) (by decide +kernel) (by rfl) (by decide +kernel) ?_
            exact lc_28 hI (by omega) hL q hd (by omega) (by omega) K
          · refine sw_tableIn (tgt := 2229) dL_law_44 (by decide +kernel) (by decide +kernel) (by rfl) (by decide +kernel) ?_
            exact lc_29 hI (by omega) hL q hd (by omega) (by omega) K
          · refine sw_tableIn (tgt := 2293) dL_law_44 (by decide +kernel) (by decide +kernel) (by rfl) (by decide +kernel) ?_
            exact lc_30 hI (by omega) hL q hd (by omega) (by omega) K
          · refine sw_tableIn (tgt := 2362) dL_law_44 (by decide +kernel) (by decide +kernel) (by rfl) (by decide +kernel) ?_
            exact lc_31 hI (by omega) hL q hd (by omega) (by omega) K
          · refine sw_tableIn (tgt := 2431) dL_law_44 (by decide +kernel) (by decide +kernel) (by rfl) (by decide +kernel) ?_
            exact lc_32 hI (by omega) hL q hd (by omega) (by omega) K
          · refine sw_tableIn (tgt := 2528) dL_law_44 (by decide +kernel) (by decide +kernel) (by rfl) (by decide +kernel) ?_
            exact lc_33 hI (by omega) hL q hd (by omega) (by omega) K
          · refine sw_tableIn (tgt := 2597) dL_law_44 (by decide +kernel) (by decide +kernel) (by rfl) (by decide +kernel) ?_
            exact lc_34 hI (by omega) hL q hd (by omega) (by omega) K
          · refine sw_tableIn (tgt := 2682) dL_law_44 (by decide +kernel) (by decide +kernel) (by rfl) (by decide +kernel) ?_
            exact lc_35 hI (by omega) hL q hd (by omega) (by omega) K
          · refine sw_tableIn (tgt := 2739) dL_law_44 (by decide +kernel) (by decide +kernel) (by rfl) (by decide +kernel) ?_
            exact lc_36 hI (by omega) hL q hd (by omega) (by omega) K
          · refine sw_tableIn (tgt := 2815) dL_law_44 (by decide +kernel) (by decide +kernel) (by rfl) (by decide +kernel) ?_
            exact lc_37 hI (by omega) hL q hd (by omega) (by omega) K
          · refine sw_tableIn (tgt := 2900) dL_law_44 (by decide +kernel) (by decide +kernel) (by rfl) (by decide +kernel) ?_
            exact lc_38 hI (by omega) hL q hd (by omega) (by omega) K
          · refine sw_tableIn (tgt := 2957) dL_law_44 (by decide +kernel) (by decide +kernel) (by rfl) (by decide +kernel) ?_
            exact lc_39 hI (by omega) hL q hd (by omega) (by omega) K
          · refine sw_tableIn (tgt := 3026) dL_law_44 (by decide +kernel) (by decide +kernel) (by rfl) (by decide +kernel) ?_
            exact lc_40 hI (by omega) hL q hd (by omega) (by omega) K
          · refine sw_tableIn (tgt := 3083) dL_law_44 (by decide +kernel) (by decide +kernel) (by rfl) (by decide +kernel) ?_
            exact lc_41 hI (by omega) hL q hd (by omega) (by omega) K
          · refine sw_tableIn (tgt := 3096) dL_law_44 (by decide +kernel) (by decide +kernel) (by rfl) (by decide +kernel) ?_
            exact lc_42 hI (by omega) hL q hd (by omega) (by omega) K
          · refine sw_tableIn (tgt := 3109) dL_law_44 (by decide +kernel) (by decide +kernel) (by rfl) (by decide +kernel) ?_
            exact lc_43 hI (by omega) hL q hd (by omega) (by omega) K
        · refine sw_tableOut (tgt := 3123) dL_law_44 (Or.inr (by rw [nI_toInt (by omega)]; omega)) (by decide +kernel) ?_
          exact (K h n σ (Nat.le_refl _) hI.up).bud (by omega) (by omega)
    · refine sw_iload (pc' := 29) rfl dL_law_27 rfl ?_
      refine sw_aload_n (pc' := 30) rfl dL_law_29 rfl ?_
      refine sw_alen (pc' := 31) rfl dL_law_30 hs (by decide +kernel) (Or.inr ⟨by decide +kernel, _, rfl⟩) ?_
      refine sw_bipush (pc' := 33) (v := 6) rfl dL_law_31 (by decide +kernel) ?_
      refine sw_isub (pc' := 34) rfl dL_law_33 ?_
      refine sw_icmp_gt (pc' := 37) (tgt := 3129) rfl dL_law_34 (by decide +kernel) (fun c34 => ?_) (fun c34 => ?_)
      · refine sw_iconst (pc' := 3130) (v := 1) rfl dL_law_3129 (by decide +kernel) ?_
        refine sw_ret (v := some _) ⟨dL_law_3130, _, rfl, rfl⟩ ?_
        exact hP _ _
      · exact absurd ((sub6 hL (by omega)).mpr (by omega)) c34
theorem icl_k {A : Nat → AH → Option Value → Prop} {h : AH} {n0 : Nat} (k : ∀ h', RC h' s0 → (∀ i, i < 100 → h' i = h i) → A 135 h' none) : ∀ (v : Option Value) (h' : AH) (n' : Nat), n0 ≤ n' → IC h (.inl v) h' n' → A n' h' v := by
  rintro v h' n' - ⟨e, rfl, g1, g2⟩
  cases e
  exact k h' g1 g2
theorem imo_k {A : Nat → AH → Option Value → Prop} {h : AH} {n0 : Nat} (k : ∀ h', RMo h' s0 0 → (∀ i, i < 135 → h' i = h i) → A 158 h' none) : ∀ (v : Option Value) (h' : AH) (n' : Nat), n0 ≤ n' → IM h (.inl v) h' n' → A n' h' v := by
  rintro v h' n' - ⟨e, rfl, g1, g2⟩
  cases e
  exact k h' g1 g2
theorem law_all {h : AH} {L d bc bs : Nat} {xs : Nat → Int32} {Post : ARes → AH → Nat → Prop} (hL : L ≤ 3072) (hs : h 0 = .inl (0, L, .inl xs)) (hT : TXT h) (hK : ∀ k, 1 ≤ k → k ≤ 5 → KdF h k) (hd : 20 ≤ d) (h1 : 195000 ≤ bc) (h2 : 2310000 ≤ bs) (hP : ∀ h n, Post (.inl (some (.int 1))) h n) : SW SR0 ML_law d bc bs 0 [(0, .ref 0)] [] h 100 Post := by
  refine sw_new (ci := 4) (pc' := 3) rfl dL_law_0 (by decide +kernel) w_63 w_64 w_39 (by omega) (Nat.le_trans (Nat.le_of_ble_eq_true rfl) (show 7 ≤ _ by omega)) ?_
  refine sw_nm (fun g1 eg1 => ?_)
  have zg1 := (congrFun eg1 100).trans (up_s (h := h) (i := 100))
  refine sw_dup (pc' := 4) rfl dL_law_3 rfl ?_
  have f4 : FN 4 = 7 := rfl
  have f5 : FN 5 = 2 := rfl
  have f6 : FN 6 = 14 := rfl
  refine sw_I (M' := MX3_init) (d' := d - 1) (bc' := 40) (bs' := 400) (as := []) dL_law_4 w_65 ok_X3_init (m_initClass zg1 (fun k a b => ⟨(hK k a b).1, ((congrFun eg1 k).trans ((up_n (by omega)).trans (rfl))).trans (hK k a b).2⟩) (by omega) (Nat.le_refl _) (Nat.le_refl _)) (by omega) (Nat.le_of_ble_eq_true rfl) (by omega) (by omega) (fun E h' n' _ z => absurd z.1 (fun e => by cases e)) (icl_k (fun p pR pF => ?_))
  have pG : ∀ i, i < 100 → p i = h i := fun i hi => (pF i hi).trans ((congrFun eg1 i).trans ((up_n (by omega)).trans (rfl)))
  refine sw_astore_n (pc' := 8) (lv' := [(1, _), (0, _)]) rfl dL_law_7 (by decide +kernel) rfl ?_
  refine sw_new (ci := 6) (pc' := 11) rfl dL_law_8 (by decide +kernel) w_1105 w_1106 w_44 (by omega) (Nat.le_trans (Nat.le_of_ble_eq_true rfl) (show 14 ≤ _ by omega)) ?_
  refine sw_nm (fun g2 eg2 => ?_)
  have zg2 := (congrFun eg2 135).trans (up_s (h := p) (i := 135))
  refine sw_dup (pc' := 12) rfl dL_law_11 rfl ?_
  refine sw_I (M' := MX5_init) (d' := d - 1) (bc' := 30) (bs' := 300) (as := []) dL_law_12 w_1107 ok_X5_init (q_initModel zg2 (Nat.le_refl _) (Nat.le_refl _)) (by omega) (Nat.le_of_ble_eq_true rfl) (by omega) (by omega) (fun E h' n' _ z => absurd z.1 (fun e => by cases e)) (imo_k (fun q qR qF => ?_))
  have qG : ∀ i, i < 135 → q i = p i := fun i hi => (qF i hi).trans ((congrFun eg2 i).trans ((up_n (by omega)).trans (rfl)))
  refine sw_astore_n (pc' := 16) (lv' := [(2, _), (1, _), (0, _)]) rfl dL_law_15 (by decide +kernel) rfl ?_
  refine sw_new (ci := 5) (pc' := 19) rfl dL_law_16 (by decide +kernel) w_379 w_380 w_45 (by omega) (Nat.le_trans (Nat.le_of_ble_eq_true rfl) (show 2 ≤ _ by omega)) ?_
  refine sw_nm (fun g3 eg3 => ?_)
  have zg3 := (congrFun eg3 158).trans (up_s (h := q) (i := 158))
  refine sw_dup (pc' := 20) rfl dL_law_19 rfl ?_
  refine sw_callIN (M' := MX4_init) (d' := d - 1) (bc' := 0) (bs' := 0) (as := []) dL_law_20 v_343 ok_X4_init.2.2.1 ok_X4_init.1.1 ok_X4_init.1.2.1 ok_X4_init.2.2.2.1 ok_X4_init.2.2.2.2 ok_X4_init.1.2.2.1 ok_X4_init.1.2.2.2.1 ok_X4_init.2.1 (by omega) ok_X4_init.1.2.2.2.2 m_initOut (Nat.le_of_ble_eq_true rfl) (Nat.zero_le _) (Nat.zero_le _) (det_k ?_) (fun E h' n' _ z => det_x z)
  have J : LI L xs g3 159 s0 0 := ⟨pR.frT (fun i hi => ((congrFun eg3 i).trans ((up_n (by omega)).trans (rfl))).trans (qG i hi)), ⟨0, qR.fr (fun i a b => (congrFun eg3 i).trans ((up_n (by omega)).trans (rfl)))⟩, hT.fr (fun i hi => ((congrFun eg3 i).trans ((up_n (by omega)).trans (rfl))).trans ((qG i (by omega)).trans (pG i hi))), cl_s0 0, ⟨0, .null, zg3⟩, ((congrFun eg3 0).trans ((up_n (by omega)).trans (rfl))).trans ((qG 0 (by decide +kernel)).trans ((pG 0 (by decide +kernel)).trans hs)), Nat.le_refl _⟩
  refine sw_astore_n (pc' := 24) (lv' := [(3, _), (2, _), (1, _), (0, _)]) rfl dL_law_23 (by decide +kernel) rfl ?_
  refine sw_iconst (pc' := 25) (v := 0) rfl dL_law_24 (by decide +kernel) ?_
  refine sw_istore (pc' := 27) (lv' := [(4, _), (3, _), (2, _), (1, _), (0, _)]) rfl dL_law_25 (by decide +kernel) rfl ?_
  exact SW.pick [0, 1, 2, 3, 4] rfl ((ll_loop hL hd hP (L / 6) 0 159 0 194560 2304000 _ s0 J (by omega) (by omega) (by omega) (by omega) (by omega)).bud (by omega) (by omega))
