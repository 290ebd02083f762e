/-! counts, house, ofWalk, end -/
def ctN (g : Nat → Int32) : Nat → Nat → Int32 → Int32
  | _, 0, v => v
  | j, m + 1, v => ctN g (j + 1) m (v + g j)
def cnT (σ : CS) : Int32 := ctN (fun j => nI (σ.2.1 j)) 0 11 0
def cnN (σ : CS) : Int32 := ctN (fun j => nI (coN (σ.1 j) 100 0 (σ.2.1 j))) 0 11 0
def cnW (σ : CS) : Int32 := ctN (fun j => bI (σ.2.2.2.2.1 j).1) 0 6 0
def cnS (σ : CS) : Int32 := ctN (fun j => bI ((σ.2.2.2.2.1 j).1 && wSt σ j)) 0 6 0
def opHouse (σ : CS) (x : Int32) : ARes × CS := if x = 0 then (rI (cnT σ), σ) else if x = 1 then (rI (cnN σ), σ) else if x = 2 then (rI (cnW σ), σ) else if x = 3 then (rI (cnS σ), σ) else if x = 4 then (rI σ.2.2.2.2.2.1, σ) else if x = 5 then (rI σ.2.2.2.2.2.2, σ) else (xA, σ)
def opOfWalk (σ : CS) (a x : Int32) : ARes × CS := onWk a σ (fun k => if x < 0 ∨ 3 < x then (xA, σ) else if (σ.2.2.2.2.1 k).1 = false then (rI (-1), σ) else (rI (if x = 0 then nI (wO σ k) else if x = 1 then (σ.2.2.2.2.1 k).2.2.1 else if x = 2 then (σ.2.2.2.2.1 k).2.2.2.1 else bI (wSt σ k)), σ))
theorem ne_toInt {x y : Int32} (h : ¬ x = y) : x.toInt ≠ y.toInt := fun e => h (Int32.toInt_inj.mp e)
theorem ts3 {x : Int32} (h0 : ¬ x = 0) (h1 : ¬ x = 1) (h2 : ¬ x = 2) : x.toInt < 0 ∨ 2 < x.toInt := by
  have g0 : x.toInt ≠ 0 := ne_toInt h0
  have g1 : x.toInt ≠ 1 := ne_toInt h1
  have g2 : x.toInt ≠ 2 := ne_toInt h2
  omega
theorem ts6 {x : Int32} (h0 : ¬ x = 0) (h1 : ¬ x = 1) (h2 : ¬ x = 2) (h3 : ¬ x = 3) (h4 : ¬ x = 4) (h5 : ¬ x = 5) : x.toInt < 0 ∨ 5 < x.toInt := by
  have g0 : x.toInt ≠ 0 := ne_toInt h0
  have g1 : x.toInt ≠ 1 := ne_toInt h1
  have g2 : x.toInt ≠ 2 := ne_toInt h2
  have g3 : x.toInt ≠ 3 := ne_toInt h3
  have g4 : x.toInt ≠ 4 := ne_toInt h4
  have g5 : x.toInt ≠ 5 := ne_toInt h5
  omega
def minI (x y : Int32) : Int32 := if y < x then y else x
def maxI (x y : Int32) : Int32 := if x < y then y else x
def edN (y : Int32) (f : Nat → Int32) : Nat → Nat → Int32 → Int32
  | _, 0, v => v
  | j, m + 1, v => edN y f (j + 1) m (if y = 0 then maxI v (f j) else minI v (f j))
def opEnd (σ : CS) (a y : Int32) : ARes × CS := onSh a σ (fun k => if σ.2.1 k = 0 ∨ (fpN (σ.1 k) 100 0 (σ.2.1 k)).isSome = true then (rI (-9), rfU σ) else (rI (edN y (σ.1 k) 1 (σ.2.1 k - 1) (σ.1 k 0)), σ))
theorem l_countThings {h : AH} {σ : CS} {d bc bs n : Nat} (hR : RC h σ) (hd : 1 ≤ d) (m : Nat) : ∀ (j : Nat) (v : Int32), j + m = 11 → SW SR0 MX3_countThings d bc bs 4 [(2, .int (nI j)), (1, .int v), (0, .ref 100)] [] h n (Det (rI (ctN (fun j => nI (σ.2.1 j)) j m v)) h n) := by
  obtain ⟨g, ga, gb⟩ := hR.2.1
  induction m with
  | zero =>
    intro j v hj
    have hjc : j = 11 := by omega
    subst hjc
    refine sw_iload_n (pc' := 5) rfl dX3_countThings_4 rfl ?_
    refine sw_bipush (pc' := 7) (v := 11) rfl dX3_countThings_5 (by decide +kernel) ?_
    refine sw_icmp_ge (pc' := 10) (tgt := 28) rfl dX3_countThings_7 (by decide +kernel) (fun c7 => ?_) (fun c7 => ?_)
    · refine sw_iload_n (pc' := 29) rfl dX3_countThings_28 rfl ?_
      refine sw_ret (v := some _) ⟨dX3_countThings_29, _, rfl, rfl⟩ ?_
      exact ⟨rfl, rfl, rfl⟩
    · exact absurd (Int32.le_refl (nI 11)) c7
  | succ m ih =>
    intro j v hm
    have hj : j < 11 := by omega
    rw [ctN]
    refine sw_iload_n (pc' := 5) rfl dX3_countThings_4 rfl ?_
    refine sw_bipush (pc' := 7) (v := 11) rfl dX3_countThings_5 (by decide +kernel) ?_
    refine sw_icmp_ge (pc' := 10) (tgt := 28) rfl dX3_countThings_7 (by decide +kernel) (fun c7 => ?_) (fun c7 => ?_)
    · exact absurd c7 (nI_ge (b := 11) (by omega) (by decide +kernel))
    · refine sw_iload_n (pc' := 11) rfl dX3_countThings_10 rfl ?_
      refine sw_aload_n (pc' := 12) rfl dX3_countThings_11 rfl ?_
      refine sw_getf (ci := 4) (k := 0) (pc' := 15) rfl dX3_countThings_12 (by decide +kernel) w_150 hR.1 rfl ?_
      refine sw_iload_n (pc' := 16) rfl dX3_countThings_15 rfl ?_
      refine sw_aald (pc' := 17) rfl dX3_countThings_16 ga (by decide +kernel) (by decide +kernel) rfl hj (by decide +kernel) (gb j hj) ?_
      refine sw_getf (ci := 2) (k := 2) (pc' := 20) rfl dX3_countThings_17 (by decide +kernel) w_84 (hR.sh hj).1 rfl ?_
      refine sw_iadd (pc' := 21) rfl dX3_countThings_20 ?_
      refine sw_istore_n (pc' := 22) (lv' := [(1, _), (2, _), (0, _)]) rfl dX3_countThings_21 (by decide +kernel) rfl ?_
      refine sw_iinc (pc' := 25) (lv' := [(2, _), (1, _), (0, _)]) (v := nI (j + 1)) rfl dX3_countThings_22 rfl (nI_succ j).symm (by decide +kernel) rfl ?_
      refine sw_goto (tgt := 4) dX3_countThings_25 (by decide +kernel) ?_
      exact ih (j + 1) _ (by omega)
theorem m_countThings {h : AH} {σ : CS} {d bc bs n : Nat} (hR : RC h σ) (hd : 1 ≤ d) : SM SR0 MX3_countThings d bc bs [.ref 100] h n (Det (rI (cnT σ)) h n) := by
  refine sm_of pn_Overwalks rfl (Nat.le_of_ble_eq_true rfl) ?_
  refine sw_iconst (pc' := 1) (v := 0) rfl dX3_countThings_0 (by decide +kernel) ?_
  refine sw_istore_n (pc' := 2) (lv' := [(1, _), (0, _)]) rfl dX3_countThings_1 (by decide +kernel) rfl ?_
  refine sw_iconst (pc' := 3) (v := 0) rfl dX3_countThings_2 (by decide +kernel) ?_
  refine sw_istore_n (pc' := 4) (lv' := [(2, _), (1, _), (0, _)]) rfl dX3_countThings_3 (by decide +kernel) rfl ?_
  exact l_countThings hR hd 11 0 0 rfl
theorem l_countNothings {h : AH} {σ : CS} {d bc bs n : Nat} (hR : RC h σ) (hd : 1 ≤ d) (m : Nat) : ∀ (j : Nat) (v : Int32), j + m = 11 → SW SR0 MX3_countNothings d bc bs 4 [(2, .int (nI j)), (1, .int v), (0, .ref 100)] [] h n (Det (rI (ctN (fun j => nI (coN (σ.1 j) 100 0 (σ.2.1 j))) j m v)) h n) := by
  obtain ⟨g, ga, gb⟩ := hR.2.1
  induction m with
  | zero =>
    intro j v hj
    have hjc : j = 11 := by omega
    subst hjc
    refine sw_iload_n (pc' := 5) rfl dX3_countNothings_4 rfl ?_
    refine sw_bipush (pc' := 7) (v := 11) rfl dX3_countNothings_5 (by decide +kernel) ?_
    refine sw_icmp_ge (pc' := 10) (tgt := 30) rfl dX3_countNothings_7 (by decide +kernel) (fun c7 => ?_) (fun c7 => ?_)
    · refine sw_iload_n (pc' := 31) rfl dX3_countNothings_30 rfl ?_
      refine sw_ret (v := some _) ⟨dX3_countNothings_31, _, rfl, rfl⟩ ?_
      exact ⟨rfl, rfl, rfl⟩
    · exact absurd (Int32.le_refl (nI 11)) c7
  | succ m ih =>
    intro j v hm
    have hj : j < 11 := by omega
    rw [ctN]
    refine sw_iload_n (pc' := 5) rfl dX3_countNothings_4 rfl ?_
    refine sw_bipush (pc' := 7) (v := 11) rfl dX3_countNothings_5 (by decide +kernel) ?_
    refine sw_icmp_ge (pc' := 10) (tgt := 30) rfl dX3_countNothings_7 (by decide +kernel) (fun c7 => ?_) (fun c7 => ?_)
    · exact absurd c7 (nI_ge (b := 11) (by omega) (by decide +kernel))
    · refine sw_iload_n (pc' := 11) rfl dX3_countNothings_10 rfl ?_
      refine sw_aload_n (pc' := 12) rfl dX3_countNothings_11 rfl ?_
      refine sw_getf (ci := 4) (k := 0) (pc' := 15) rfl dX3_countNothings_12 (by decide +kernel) w_150 hR.1 rfl ?_
      refine sw_iload_n (pc' := 16) rfl dX3_countNothings_15 rfl ?_
      refine sw_aald (pc' := 17) rfl dX3_countNothings_16 ga (by decide +kernel) (by decide +kernel) rfl hj (by decide +kernel) (gb j hj) ?_
      refine sw_bipush (pc' := 19) (v := 100) rfl dX3_countNothings_17 (by decide +kernel) ?_
      refine sw_V (M' := MX1_countOf) (d' := d - 1) (bc' := 0) (bs' := 0) (ci := 2) (as := [_]) dX3_countNothings_19 w_269 ok_X1_countOf (m_countOf (hR.sh hj)) (hR.sh hj).1 rfl (by omega) (Nat.le_of_ble_eq_true rfl) (Nat.zero_le _) (Nat.zero_le _) (fun E h' n' _ z => det_x z) (det_k ?_)
      refine sw_iadd (pc' := 23) rfl dX3_countNothings_22 ?_
      refine sw_istore_n (pc' := 24) (lv' := [(1, _), (2, _), (0, _)]) rfl dX3_countNothings_23 (by decide +kernel) rfl ?_
      refine sw_iinc (pc' := 27) (lv' := [(2, _), (1, _), (0, _)]) (v := nI (j + 1)) rfl dX3_countNothings_24 rfl (nI_succ j).symm (by decide +kernel) rfl ?_
      refine sw_goto (tgt := 4) dX3_countNothings_27 (by decide +kernel) ?_
      exact ih (j + 1) _ (by omega)
theorem m_countNothings {h : AH} {σ : CS} {d bc bs n : Nat} (hR : RC h σ) (hd : 1 ≤ d) : SM SR0 MX3_countNothings d bc bs [.ref 100] h n (Det (rI (cnN σ)) h n) := by
  refine sm_of pn_Overwalks rfl (Nat.le_of_ble_eq_true rfl) ?_
  refine sw_iconst (pc' := 1) (v := 0) rfl dX3_countNothings_0 (by decide +kernel) ?_
  refine sw_istore_n (pc' := 2) (lv' := [(1, _), (0, _)]) rfl dX3_countNothings_1 (by decide +kernel) rfl ?_
  refine sw_iconst (pc' := 3) (v := 0) rfl dX3_countNothings_2 (by decide +kernel) ?_
  refine sw_istore_n (pc' := 4) (lv' := [(2, _), (1, _), (0, _)]) rfl dX3_countNothings_3 (by decide +kernel) rfl ?_
  exact l_countNothings hR hd 11 0 0 rfl
theorem l_countWalks {h : AH} {σ : CS} {d bc bs n : Nat} (hR : RC h σ) (hd : 1 ≤ d) (m : Nat) : ∀ (j : Nat) (v : Int32), j + m = 6 → SW SR0 MX3_countWalks d bc bs 4 [(2, .int (nI j)), (1, .int v), (0, .ref 100)] [] h n (Det (rI (ctN (fun j => bI (σ.2.2.2.2.1 j).1) j m v)) h n) := by
  obtain ⟨g, ga, gb⟩ := hR.2.2.1
  induction m with
  | zero =>
    intro j v hj
    have hjc : j = 6 := by omega
    subst hjc
    refine sw_iload_n (pc' := 5) rfl dX3_countWalks_4 rfl ?_
    refine sw_bipush (pc' := 7) (v := 6) rfl dX3_countWalks_5 (by decide +kernel) ?_
    refine sw_icmp_ge (pc' := 10) (tgt := 31) rfl dX3_countWalks_7 (by decide +kernel) (fun c7 => ?_) (fun c7 => ?_)
    · refine sw_iload_n (pc' := 32) rfl dX3_countWalks_31 rfl ?_
      refine sw_ret (v := some _) ⟨dX3_countWalks_32, _, rfl, rfl⟩ ?_
      exact ⟨rfl, rfl, rfl⟩
    · exact absurd (Int32.le_refl (nI 6)) c7
  | succ m ih =>
    intro j v hm
    have hj : j < 6 := by omega
    rw [ctN]
    refine sw_iload_n (pc' := 5) rfl dX3_countWalks_4 rfl ?_
    refine sw_bipush (pc' := 7) (v := 6) rfl dX3_countWalks_5 (by decide +kernel) ?_
    refine sw_icmp_ge (pc' := 10) (tgt := 31) rfl dX3_countWalks_7 (by decide +kernel) (fun c7 => ?_) (fun c7 => ?_)
    · exact absurd c7 (nI_ge (b := 6) (by omega) (by decide +kernel))
    · refine sw_iload_n (pc' := 11) rfl dX3_countWalks_10 rfl ?_
      refine sw_aload_n (pc' := 12) rfl dX3_countWalks_11 rfl ?_
      refine sw_getf (ci := 4) (k := 1) (pc' := 15) rfl dX3_countWalks_12 (by decide +kernel) w_151 hR.1 rfl ?_
      refine sw_iload_n (pc' := 16) rfl dX3_countWalks_15 rfl ?_
      refine sw_aald (pc' := 17) rfl dX3_countWalks_16 ga (by decide +kernel) (by decide +kernel) rfl hj (by decide +kernel) (gb j hj) ?_
      refine sw_getf (ci := 3) (k := 0) (pc' := 20) rfl dX3_countWalks_17 (by decide +kernel) w_118 (hR.wk hj).2.1 rfl ?_
      refine sw_S (M' := MX3_oneIf) (d' := d - 1) (bc' := 0) (bs' := 0) (as := [_]) dX3_countWalks_20 w_277 ok_X3_oneIf (m_oneIf) (by omega) (Nat.le_of_ble_eq_true rfl) (Nat.zero_le _) (Nat.zero_le _) (fun E h' n' _ z => det_x z) (det_k ?_)
      refine sw_iadd (pc' := 24) rfl dX3_countWalks_23 ?_
      refine sw_istore_n (pc' := 25) (lv' := [(1, _), (2, _), (0, _)]) rfl dX3_countWalks_24 (by decide +kernel) rfl ?_
      refine sw_iinc (pc' := 28) (lv' := [(2, _), (1, _), (0, _)]) (v := nI (j + 1)) rfl dX3_countWalks_25 rfl (nI_succ j).symm (by decide +kernel) rfl ?_
      refine sw_goto (tgt := 4) dX3_countWalks_28 (by decide +kernel) ?_
      exact ih (j + 1) _ (by omega)
theorem m_countWalks {h : AH} {σ : CS} {d bc bs n : Nat} (hR : RC h σ) (hd : 1 ≤ d) : SM SR0 MX3_countWalks d bc bs [.ref 100] h n (Det (rI (cnW σ)) h n) := by
  refine sm_of pn_Overwalks rfl (Nat.le_of_ble_eq_true rfl) ?_
  refine sw_iconst (pc' := 1) (v := 0) rfl dX3_countWalks_0 (by decide +kernel) ?_
  refine sw_istore_n (pc' := 2) (lv' := [(1, _), (0, _)]) rfl dX3_countWalks_1 (by decide +kernel) rfl ?_
  refine sw_iconst (pc' := 3) (v := 0) rfl dX3_countWalks_2 (by decide +kernel) ?_
  refine sw_istore_n (pc' := 4) (lv' := [(2, _), (1, _), (0, _)]) rfl dX3_countWalks_3 (by decide +kernel) rfl ?_
  exact l_countWalks hR hd 6 0 0 rfl
theorem l_countStaleWalks {h : AH} {σ : CS} {d bc bs n : Nat} (hR : RC h σ) (hd : 1 ≤ d) (m : Nat) : ∀ (j : Nat) (v : Int32), j + m = 6 → SW SR0 MX3_countStaleWalks d bc bs 4 [(2, .int (nI j)), (1, .int v), (0, .ref 100)] [] h n (Det (rI (ctN (fun j => bI ((σ.2.2.2.2.1 j).1 && wSt σ j)) j m v)) h n) := by
  obtain ⟨g, ga, gb⟩ := hR.2.2.1
  induction m with
  | zero =>
    intro j v hj
    have hjc : j = 6 := by omega
    subst hjc
    refine sw_iload_n (pc' := 5) rfl dX3_countStaleWalks_4 rfl ?_
    refine sw_bipush (pc' := 7) (v := 6) rfl dX3_countStaleWalks_5 (by decide +kernel) ?_
    refine sw_icmp_ge (pc' := 10) (tgt := 51) rfl dX3_countStaleWalks_7 (by decide +kernel) (fun c7 => ?_) (fun c7 => ?_)
    · refine sw_iload_n (pc' := 52) rfl dX3_countStaleWalks_51 rfl ?_
      refine sw_ret (v := some _) ⟨dX3_countStaleWalks_52, _, rfl, rfl⟩ ?_
      exact ⟨rfl, rfl, rfl⟩
    · exact absurd (Int32.le_refl (nI 6)) c7
  | succ m ih =>
    intro j v hm
    have hj : j < 6 := by omega
    rw [ctN]
    refine sw_iload_n (pc' := 5) rfl dX3_countStaleWalks_4 rfl ?_
    refine sw_bipush (pc' := 7) (v := 6) rfl dX3_countStaleWalks_5 (by decide +kernel) ?_
    refine sw_icmp_ge (pc' := 10) (tgt := 51) rfl dX3_countStaleWalks_7 (by decide +kernel) (fun c7 => ?_) (fun c7 => ?_)
    · exact absurd c7 (nI_ge (b := 6) (by omega) (by decide +kernel))
    · refine sw_iload_n (pc' := 11) rfl dX3_countStaleWalks_10 rfl ?_
      refine sw_aload_n (pc' := 12) rfl dX3_countStaleWalks_11 rfl ?_
      refine sw_getf (ci := 4) (k := 1) (pc' := 15) rfl dX3_countStaleWalks_12 (by decide +kernel) w_151 hR.1 rfl ?_
      refine sw_iload_n (pc' := 16) rfl dX3_countStaleWalks_15 rfl ?_
      refine sw_aald (pc' := 17) rfl dX3_countStaleWalks_16 ga (by decide +kernel) (by decide +kernel) rfl hj (by decide +kernel) (gb j hj) ?_
      refine sw_getf (ci := 3) (k := 0) (pc' := 20) rfl dX3_countStaleWalks_17 (by decide +kernel) w_118 (hR.wk hj).2.1 rfl ?_
      refine sw_if_eq (pc' := 23) (tgt := 39) rfl dX3_countStaleWalks_20 (by decide +kernel) (fun c20 => ?_) (fun c20 => ?_)
      · refine sw_iconst (pc' := 40) (v := 0) rfl dX3_countStaleWalks_39 (by decide +kernel) ?_
        refine sw_S (M' := MX3_oneIf) (d' := d - 1) (bc' := 0) (bs' := 0) (as := [_]) dX3_countStaleWalks_40 w_277 ok_X3_oneIf (m_oneIf (q := false)) (by omega) (Nat.le_of_ble_eq_true rfl) (Nat.zero_le _) (Nat.zero_le _) (fun E h' n' _ z => det_x z) (det_k ?_)
        refine sw_iadd (pc' := 44) rfl dX3_countStaleWalks_43 ?_
        refine sw_istore_n (pc' := 45) (lv' := [(1, _), (2, _), (0, _)]) rfl dX3_countStaleWalks_44 (by decide +kernel) rfl ?_
        refine sw_iinc (pc' := 48) (lv' := [(2, _), (1, _), (0, _)]) (v := nI (j + 1)) rfl dX3_countStaleWalks_45 rfl (nI_succ j).symm (by decide +kernel) rfl ?_
        refine sw_goto (tgt := 4) dX3_countStaleWalks_48 (by decide +kernel) ?_
        have e0 : bI ((σ.2.2.2.2.1 j).1 && wSt σ j) = 0 := by rw [bI_0 c20]; rfl
        have g9 := ih (j + 1) (v + bI ((σ.2.2.2.2.1 j).1 && wSt σ j)) (by omega)
        rw [e0] at g9 ⊢
        exact g9
      · refine sw_aload_n (pc' := 24) rfl dX3_countStaleWalks_23 rfl ?_
        refine sw_getf (ci := 4) (k := 1) (pc' := 27) rfl dX3_countStaleWalks_24 (by decide +kernel) w_151 hR.1 rfl ?_
        refine sw_iload_n (pc' := 28) rfl dX3_countStaleWalks_27 rfl ?_
        refine sw_aald (pc' := 29) rfl dX3_countStaleWalks_28 ga (by decide +kernel) (by decide +kernel) rfl hj (by decide +kernel) (gb j hj) ?_
        refine sw_V (M' := MX2_isStale) (d' := d - 1) (bc' := 0) (bs' := 0) (ci := 3) (as := []) dX3_countStaleWalks_29 w_284 ok_X2_isStale (m_isStale (hR.wk hj).2 (hR.sh (hR.wk hj).1)) (hR.wk hj).2.1 rfl (by omega) (Nat.le_of_ble_eq_true rfl) (Nat.zero_le _) (Nat.zero_le _) (fun E h' n' _ z => det_x z) (det_k ?_)
        refine sw_if_eq (pc' := 35) (tgt := 39) rfl dX3_countStaleWalks_32 (by decide +kernel) (fun c32 => ?_) (fun c32 => ?_)
        · refine sw_iconst (pc' := 40) (v := 0) rfl dX3_countStaleWalks_39 (by decide +kernel) ?_
          refine sw_S (M' := MX3_oneIf) (d' := d - 1) (bc' := 0) (bs' := 0) (as := [_]) dX3_countStaleWalks_40 w_277 ok_X3_oneIf (m_oneIf (q := false)) (by omega) (Nat.le_of_ble_eq_true rfl) (Nat.zero_le _) (Nat.zero_le _) (fun E h' n' _ z => det_x z) (det_k ?_)
          refine sw_iadd (pc' := 44) rfl dX3_countStaleWalks_43 ?_
          refine sw_istore_n (pc' := 45) (lv' := [(1, _), (2, _), (0, _)]) rfl dX3_countStaleWalks_44 (by decide +kernel) rfl ?_
          refine sw_iinc (pc' := 48) (lv' := [(2, _), (1, _), (0, _)]) (v := nI (j + 1)) rfl dX3_countStaleWalks_45 rfl (nI_succ j).symm (by decide +kernel) rfl ?_
          refine sw_goto (tgt := 4) dX3_countStaleWalks_48 (by decide +kernel) ?_
          have e0 : bI ((σ.2.2.2.2.1 j).1 && wSt σ j) = 0 := by rw [bI_1 c20, show wSt σ j = false from bI_0 c32]; rfl
          have g9 := ih (j + 1) (v + bI ((σ.2.2.2.2.1 j).1 && wSt σ j)) (by omega)
          rw [e0] at g9 ⊢
          exact g9
        · refine sw_iconst (pc' := 36) (v := 1) rfl dX3_countStaleWalks_35 (by decide +kernel) ?_
          refine sw_goto (tgt := 40) dX3_countStaleWalks_36 (by decide +kernel) ?_
          refine sw_S (M' := MX3_oneIf) (d' := d - 1) (bc' := 0) (bs' := 0) (as := [_]) dX3_countStaleWalks_40 w_277 ok_X3_oneIf (m_oneIf (q := true)) (by omega) (Nat.le_of_ble_eq_true rfl) (Nat.zero_le _) (Nat.zero_le _) (fun E h' n' _ z => det_x z) (det_k ?_)
          refine sw_iadd (pc' := 44) rfl dX3_countStaleWalks_43 ?_
          refine sw_istore_n (pc' := 45) (lv' := [(1, _), (2, _), (0, _)]) rfl dX3_countStaleWalks_44 (by decide +kernel) rfl ?_
          refine sw_iinc (pc' := 48) (lv' := [(2, _), (1, _), (0, _)]) (v := nI (j + 1)) rfl dX3_countStaleWalks_45 rfl (nI_succ j).symm (by decide +kernel) rfl ?_
          refine sw_goto (tgt := 4) dX3_countStaleWalks_48 (by decide +kernel) ?_
          have e0 : bI ((σ.2.2.2.2.1 j).1 && wSt σ j) = 1 := by rw [bI_1 c20, show wSt σ j = true from bI_1 c32]; rfl
          have g9 := ih (j + 1) (v + bI ((σ.2.2.2.2.1 j).1 && wSt σ j)) (by omega)
          rw [e0] at g9 ⊢
          exact g9
theorem m_countStaleWalks {h : AH} {σ : CS} {d bc bs n : Nat} (hR : RC h σ) (hd : 1 ≤ d) : SM SR0 MX3_countStaleWalks d bc bs [.ref 100] h n (Det (rI (cnS σ)) h n) := by
  refine sm_of pn_Overwalks rfl (Nat.le_of_ble_eq_true rfl) ?_
  refine sw_iconst (pc' := 1) (v := 0) rfl dX3_countStaleWalks_0 (by decide +kernel) ?_
  refine sw_istore_n (pc' := 2) (lv' := [(1, _), (0, _)]) rfl dX3_countStaleWalks_1 (by decide +kernel) rfl ?_
  refine sw_iconst (pc' := 3) (v := 0) rfl dX3_countStaleWalks_2 (by decide +kernel) ?_
  refine sw_istore_n (pc' := 4) (lv' := [(2, _), (1, _), (0, _)]) rfl dX3_countStaleWalks_3 (by decide +kernel) rfl ?_
  exact l_countStaleWalks hR hd 6 0 0 rfl
theorem m_house {h : AH} {σ : CS} {d bc bs n : Nat} {x : Int32} (hR : RC h σ) (hd : 6 ≤ d) (hb1 : 20 ≤ bc) (hb2 : 200 ≤ bs) : SM SR0 MX3_house d bc bs [.ref 100, .int x] h n (CP h n (opHouse σ x)) := by
  refine sm_of pn_Overwalks rfl (Nat.le_of_ble_eq_true rfl) ?_
  refine sw_iload_n (pc' := 1) rfl dX3_house_0 rfl ?_
  rcases Classical.em (x = 0) with t1_0 | t1_0
  · refine sw_tableIn (tgt := 40) dX3_house_1 (by rw [t1_0]; decide) (by rw [t1_0]; decide) (by rw [t1_0]; rfl) (by decide +kernel) ?_
    refine sw_aload_n (pc' := 41) rfl dX3_house_40 rfl ?_
    refine sw_V (M' := MX3_countThings) (d' := d - 1) (bc' := 0) (bs' := 0) (ci := 4) (as := []) dX3_house_41 w_261 ok_X3_countThings (m_countThings hR (by omega)) hR.1 rfl (by omega) (Nat.le_of_ble_eq_true rfl) (Nat.zero_le _) (Nat.zero_le _) (fun E h' n' _ z => det_x z) (det_k ?_)
    refine sw_ret (v := some _) ⟨dX3_house_44, _, rfl, rfl⟩ ?_
    rw [opHouse, if_pos t1_0]
    exact ⟨rfl, rfl, hR, FrC.rf⟩
  rcases Classical.em (x = 1) with t1_1 | t1_1
  · refine sw_tableIn (tgt := 45) dX3_house_1 (by rw [t1_1]; decide) (by rw [t1_1]; decide) (by rw [t1_1]; rfl) (by decide +kernel) ?_
    refine sw_aload_n (pc' := 46) rfl dX3_house_45 rfl ?_
    refine sw_V (M' := MX3_countNothings) (d' := d - 1) (bc' := 0) (bs' := 0) (ci := 4) (as := []) dX3_house_46 w_265 ok_X3_countNothings (m_countNothings hR (by omega)) hR.1 rfl (by omega) (Nat.le_of_ble_eq_true rfl) (Nat.zero_le _) (Nat.zero_le _) (fun E h' n' _ z => det_x z) (det_k ?_)
    refine sw_ret (v := some _) ⟨dX3_house_49, _, rfl, rfl⟩ ?_
    rw [opHouse, if_neg t1_0, if_pos t1_1]
    exact ⟨rfl, rfl, hR, FrC.rf⟩
  rcases Classical.em (x = 2) with t1_2 | t1_2
  · refine sw_tableIn (tgt := 50) dX3_house_1 (by rw [t1_2]; decide) (by rw [t1_2]; decide) (by rw [t1_2]; rfl) (by decide +kernel) ?_
    refine sw_aload_n (pc' := 51) rfl dX3_house_50 rfl ?_
    refine sw_V (M' := MX3_countWalks) (d' := d - 1) (bc' := 0) (bs' := 0) (ci := 4) (as := []) dX3_house_51 w_273 ok_X3_countWalks (m_countWalks hR (by omega)) hR.1 rfl (by omega) (Nat.le_of_ble_eq_true rfl) (Nat.zero_le _) (Nat.zero_le _) (fun E h' n' _ z => det_x z) (det_k ?_)
    refine sw_ret (v := some _) ⟨dX3_house_54, _, rfl, rfl⟩ ?_
    rw [opHouse, if_neg t1_0, if_neg t1_1, if_pos t1_2]
    exact ⟨rfl, rfl, hR, FrC.rf⟩
  rcases Classical.em (x = 3) with t1_3 | t1_3
  · refine sw_tableIn (tgt := 55) dX3_house_1 (by rw [t1_3]; decide) (by rw [t1_3]; decide) (by rw [t1_3]; rfl) (by decide +kernel) ?_
    refine sw_aload_n (pc' := 56) rfl dX3_house_55 rfl ?_
    refine sw_V (M' := MX3_countStaleWalks) (d' := d - 1) (bc' := 0) (bs' := 0) (ci := 4) (as := []) dX3_house_56 w_280 ok_X3_countStaleWalks (m_countStaleWalks hR (by omega)) hR.1 rfl (by omega) (Nat.le_of_ble_eq_true rfl) (Nat.zero_le _) (Nat.zero_le _) (fun E h' n' _ z => det_x z) (det_k ?_)
    refine sw_ret (v := some _) ⟨dX3_house_59, _, rfl, rfl⟩ ?_
    rw [opHouse, if_neg t1_0, if_neg t1_1, if_neg t1_2, if_pos t1_3]
    exact ⟨rfl, rfl, hR, FrC.rf⟩
  rcases Classical.em (x = 4) with t1_4 | t1_4
  · refine sw_tableIn (tgt := 60) dX3_house_1 (by rw [t1_4]; decide) (by rw [t1_4]; decide) (by rw [t1_4]; rfl) (by decide +kernel) ?_
    refine sw_aload_n (pc' := 61) rfl dX3_house_60 rfl ?_
    refine sw_getf (ci := 4) (k := 5) (pc' := 64) rfl dX3_house_61 (by decide +kernel) w_155 hR.1 rfl ?_
    refine sw_ret (v := some _) ⟨dX3_house_64, _, rfl, rfl⟩ ?_
    rw [opHouse, if_neg t1_0, if_neg t1_1, if_neg t1_2, if_neg t1_3, if_pos t1_4]
    exact ⟨rfl, rfl, hR, FrC.rf⟩
  rcases Classical.em (x = 5) with t1_5 | t1_5
  · refine sw_tableIn (tgt := 65) dX3_house_1 (by rw [t1_5]; decide) (by rw [t1_5]; decide) (by rw [t1_5]; rfl) (by decide +kernel) ?_
    refine sw_aload_n (pc' := 66) rfl dX3_house_65 rfl ?_
    refine sw_getf (ci := 4) (k := 6) (pc' := 69) rfl dX3_house_66 (by decide +kernel) w_156 hR.1 rfl ?_
    refine sw_ret (v := some _) ⟨dX3_house_69, _, rfl, rfl⟩ ?_
    rw [opHouse, if_neg t1_0, if_neg t1_1, if_neg t1_2, if_neg t1_3, if_neg t1_4, if_pos t1_5]
    exact ⟨rfl, rfl, hR, FrC.rf⟩
  refine sw_tableOut (tgt := 70) dX3_house_1 (ts6 t1_0 t1_1 t1_2 t1_3 t1_4 t1_5) (by decide +kernel) ?_
  refine sw_throwW (names := ["java/lang/RuntimeException", "java/lang/Exception"]) rfl dX3_house_70 dX3_house_73 dX3_house_74 dX3_house_77 dX3_house_80 (by decide +kernel) (by decide +kernel) (by decide +kernel) w_285 w_50 (SRm 0 rfl) th_Overwalks_154 (by omega) (by omega) ?_
  rw [opHouse, if_neg t1_0, if_neg t1_1, if_neg t1_2, if_neg t1_3, if_neg t1_4, if_neg t1_5]
  exact ⟨rfl, rfl, hR, FrC.rf⟩
theorem m_ofWalk {h : AH} {σ : CS} {d bc bs n : Nat} {a x : Int32} (hR : RC h σ) (hd : 6 ≤ d) (hb1 : 20 ≤ bc) (hb2 : 200 ≤ bs) : SM SR0 MX3_ofWalk d bc bs [.ref 100, .int a, .int x] h n (CP h n (opOfWalk σ a x)) := by
  refine sm_of pn_Overwalks rfl (Nat.le_of_ble_eq_true rfl) ?_
  refine sw_aload_n (pc' := 1) rfl dX3_ofWalk_0 rfl ?_
  refine sw_iload_n (pc' := 2) rfl dX3_ofWalk_1 rfl ?_
  rcases idxN 6 (by decide +kernel) a with q2 | ⟨k2, hk2, q2⟩
  · refine sw_V (M' := MX3_walkAt) (d' := d - 1) (bc' := 1) (bs' := 6) (ci := 4) (as := [_]) dX3_ofWalk_2 w_357 ok_X3_walkAt (m_walkAt_x hR (Nat.le_refl _) (Nat.le_refl _) q2) hR.1 rfl (by omega) (Nat.le_of_ble_eq_true rfl) (by omega) (by omega) (dx_x (swx_out rfl ?_)) (fun v h' n' _ z => dx_k z)
    rw [opOfWalk, onWk_x q2]
    exact ⟨rfl, rfl, hR, FrC.rf⟩
  subst q2
  refine sw_V (M' := MX3_walkAt) (d' := d - 1) (bc' := 1) (bs' := 6) (ci := 4) (as := [_]) dX3_ofWalk_2 w_357 ok_X3_walkAt (m_walkAt_k hR (Nat.le_refl _) (Nat.le_refl _) hk2) hR.1 rfl (by omega) (Nat.le_of_ble_eq_true rfl) (by omega) (by omega) (fun E h' n' _ z => det_x z) (det_k ?_)
  refine sw_astore_n (pc' := 6) (lv' := [(3, _), (0, _), (1, _), (2, _)]) rfl dX3_ofWalk_5 (by decide +kernel) rfl ?_
  refine sw_iload_n (pc' := 7) rfl dX3_ofWalk_6 rfl ?_
  refine sw_if_lt (pc' := 10) (tgt := 15) rfl dX3_ofWalk_7 (by decide +kernel) (fun c7 => ?_) (fun c7 => ?_)
  · refine sw_throwW (names := ["java/lang/RuntimeException", "java/lang/Exception"]) rfl dX3_ofWalk_15 dX3_ofWalk_18 dX3_ofWalk_19 dX3_ofWalk_22 dX3_ofWalk_25 (by decide +kernel) (by decide +kernel) (by decide +kernel) w_285 w_50 (SRm 2 rfl) th_Overwalks_154 (by omega) (by omega) ?_
    rw [opOfWalk, onWk_k hk2, if_pos (Or.inl c7)]
    exact ⟨rfl, rfl, hR, FrC.rf⟩
  · refine sw_iload_n (pc' := 11) rfl dX3_ofWalk_10 rfl ?_
    refine sw_iconst (pc' := 12) (v := 3) rfl dX3_ofWalk_11 (by decide +kernel) ?_
    refine sw_icmp_le (pc' := 15) (tgt := 26) rfl dX3_ofWalk_12 (by decide +kernel) (fun c12 => ?_) (fun c12 => ?_)
    · refine sw_aload_n (pc' := 27) rfl dX3_ofWalk_26 rfl ?_
      refine sw_getf (ci := 3) (k := 0) (pc' := 30) rfl dX3_ofWalk_27 (by decide +kernel) w_118 (hR.wk hk2).2.1 rfl ?_
      refine sw_if_ne (pc' := 33) (tgt := 35) rfl dX3_ofWalk_30 (by decide +kernel) (fun c30 => ?_) (fun c30 => ?_)
      · refine sw_iload_n (pc' := 36) rfl dX3_ofWalk_35 rfl ?_
        rcases Classical.em (x = 0) with t36_0 | t36_0
        · refine sw_tableIn (tgt := 64) dX3_ofWalk_36 (by rw [t36_0]; decide) (by rw [t36_0]; decide) (by rw [t36_0]; rfl) (by decide +kernel) ?_
          refine sw_aload_n (pc' := 65) rfl dX3_ofWalk_64 rfl ?_
          refine sw_getf (ci := 3) (k := 2) (pc' := 68) rfl dX3_ofWalk_65 (by decide +kernel) w_122 (hR.wk hk2).2.1 rfl ?_
          refine sw_ret (v := some _) ⟨dX3_ofWalk_68, _, rfl, rfl⟩ ?_
          rw [opOfWalk, onWk_k hk2, if_neg (fun q => q.elim c7 (Int32.not_lt.mpr c12)), if_neg (fun e : (σ.2.2.2.2.1 k2).1 = false => by rw [e] at c30; exact c30 rfl), if_pos t36_0]
          exact ⟨rfl, rfl, hR, FrC.rf⟩
        rcases Classical.em (x = 1) with t36_1 | t36_1
        · refine sw_tableIn (tgt := 69) dX3_ofWalk_36 (by rw [t36_1]; decide) (by rw [t36_1]; decide) (by rw [t36_1]; rfl) (by decide +kernel) ?_
          refine sw_aload_n (pc' := 70) rfl dX3_ofWalk_69 rfl ?_
          refine sw_getf (ci := 3) (k := 3) (pc' := 73) rfl dX3_ofWalk_70 (by decide +kernel) w_124 (hR.wk hk2).2.1 rfl ?_
          refine sw_ret (v := some _) ⟨dX3_ofWalk_73, _, rfl, rfl⟩ ?_
          rw [opOfWalk, onWk_k hk2, if_neg (fun q => q.elim c7 (Int32.not_lt.mpr c12)), if_neg (fun e : (σ.2.2.2.2.1 k2).1 = false => by rw [e] at c30; exact c30 rfl), if_neg t36_0, if_pos t36_1]
          exact ⟨rfl, rfl, hR, FrC.rf⟩
        rcases Classical.em (x = 2) with t36_2 | t36_2
        · refine sw_tableIn (tgt := 74) dX3_ofWalk_36 (by rw [t36_2]; decide) (by rw [t36_2]; decide) (by rw [t36_2]; rfl) (by decide +kernel) ?_
          refine sw_aload_n (pc' := 75) rfl dX3_ofWalk_74 rfl ?_
          refine sw_getf (ci := 3) (k := 4) (pc' := 78) rfl dX3_ofWalk_75 (by decide +kernel) w_126 (hR.wk hk2).2.1 rfl ?_
          refine sw_ret (v := some _) ⟨dX3_ofWalk_78, _, rfl, rfl⟩ ?_
          rw [opOfWalk, onWk_k hk2, if_neg (fun q => q.elim c7 (Int32.not_lt.mpr c12)), if_neg (fun e : (σ.2.2.2.2.1 k2).1 = false => by rw [e] at c30; exact c30 rfl), if_neg t36_0, if_neg t36_1, if_pos t36_2]
          exact ⟨rfl, rfl, hR, FrC.rf⟩
        refine sw_tableOut (tgt := 79) dX3_ofWalk_36 (ts3 t36_0 t36_1 t36_2) (by decide +kernel) ?_
        refine sw_aload_n (pc' := 80) rfl dX3_ofWalk_79 rfl ?_
        refine sw_V (M' := MX2_isStale) (d' := d - 1) (bc' := 0) (bs' := 0) (ci := 3) (as := []) dX3_ofWalk_80 w_284 ok_X2_isStale (m_isStale (hR.wk hk2).2 (hR.sh (hR.wk hk2).1)) (hR.wk hk2).2.1 rfl (by omega) (Nat.le_of_ble_eq_true rfl) (by omega) (by omega) (fun E h' n' _ z => det_x z) (det_k ?_)
        refine sw_S (M' := MX3_oneIf) (d' := d - 1) (bc' := 0) (bs' := 0) (as := [_]) dX3_ofWalk_83 w_277 ok_X3_oneIf (m_oneIf) (by omega) (Nat.le_of_ble_eq_true rfl) (by omega) (by omega) (fun E h' n' _ z => det_x z) (det_k ?_)
        refine sw_ret (v := some _) ⟨dX3_ofWalk_86, _, rfl, rfl⟩ ?_
        rw [opOfWalk, onWk_k hk2, if_neg (fun q => q.elim c7 (Int32.not_lt.mpr c12)), if_neg (fun e : (σ.2.2.2.2.1 k2).1 = false => by rw [e] at c30; exact c30 rfl), if_neg t36_0, if_neg t36_1, if_neg t36_2]
        exact ⟨rfl, rfl, hR, FrC.rf⟩
      · refine sw_iconst (pc' := 34) (v := (-1)) rfl dX3_ofWalk_33 (by decide +kernel) ?_
        refine sw_ret (v := some _) ⟨dX3_ofWalk_34, _, rfl, rfl⟩ ?_
        rw [opOfWalk, onWk_k hk2, if_neg (fun q => q.elim c7 (Int32.not_lt.mpr c12)), if_pos (bI_0 c30)]
        exact ⟨rfl, rfl, hR, FrC.rf⟩
    · refine sw_throwW (names := ["java/lang/RuntimeException", "java/lang/Exception"]) rfl dX3_ofWalk_15 dX3_ofWalk_18 dX3_ofWalk_19 dX3_ofWalk_22 dX3_ofWalk_25 (by decide +kernel) (by decide +kernel) (by decide +kernel) w_285 w_50 (SRm 2 rfl) th_Overwalks_154 (by omega) (by omega) ?_
      rw [opOfWalk, onWk_k hk2, if_pos (Or.inr (Int32.not_le.mp c12))]
      exact ⟨rfl, rfl, hR, FrC.rf⟩
