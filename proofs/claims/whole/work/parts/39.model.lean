/-! the model: things come and go, walks -/
theorem kdO_3 {k : Nat} (hk : k < 11) : kdO k = 2 → k = 3 := by revert k; decide
theorem srt_up {f : Nat → Int32} {c m : Nat} {x : Int32} (hs : srt f c) (hm : m < c) (hl : f m < x) : ∀ i, i < m + 1 → f i < x := by
  intro i hi
  by_cases e : i = m
  · rw [e]; exact hl
  · exact Int32.lt_trans (hs i m (by omega) hm) hl
theorem kE_n {k : Nat} (hk : k < 11) (h3 : k ≠ 3) (h4 : k ≠ 4) : kE (kdO k) = false := by revert k; decide
/-- what is not there comes -/
theorem ldU_p {σ : CS} {k p : Nat} {x : Int32} (e : ldY (σ.1 k) (σ.2.1 k) (kdO k) x = true) (hp : ldP (σ.1 k) (σ.2.1 k) (kdO k) x = p) : ldU σ k x = la2 σ k p x := by
  unfold ldU la2
  rw [if_pos e, hp]
theorem ldU_n {σ : CS} {k : Nat} {x : Int32} (e : ldY (σ.1 k) (σ.2.1 k) (kdO k) x = false) : ldU σ k x = σ := by
  unfold ldU
  rw [if_neg (by rw [e]; decide)]
theorem fp_of_co {f : Nat → Int32} {x : Int32} {c : Nat} (h : ¬ 0 < coN f x 0 c) : (fpN f x 0 c).isSome = false := by rw [← coN_s]; exact decide_eq_false h
theorem fp_of_co1 {f : Nat → Int32} {x : Int32} {c : Nat} (h : 0 < coN f x 0 c) : (fpN f x 0 c).isSome = true := by rw [← coN_s]; exact decide_eq_true h
theorem hmB_m {c : Nat} {s gi tk ss : Int32} (h : s = ss) : hmB c s gi tk ss = decide (gi - tk < nI c) := by
  unfold hmB
  rw [show decide (s ≠ ss) = false from decide_eq_false (fun q => q h)]
  rfl
theorem wHM_m {σ : CS} {k : Nat} (h : wSt σ k = false) : wHM σ k = decide (wAh σ k < nI (σ.2.1 (wO σ k))) := hmB_m (by
  have := of_decide_eq_false h
  exact Decidable.of_not_not this)
theorem gvU_1 {σ : CS} {k : Nat} : gvU σ k 1 = wU σ k ((σ.2.2.2.2.1 k).1, wO σ k, (σ.2.2.2.2.1 k).2.2.1, (σ.2.2.2.2.1 k).2.2.2.1 + 1, (σ.2.2.2.2.1 k).2.2.2.2.1, (σ.2.2.2.2.1 k).2.2.2.2.2.1, σ.2.2.2.1 (wO σ k), true) := rfl
theorem wU_id {σ : CS} {k : Nat} : wU σ k (σ.2.2.2.2.1 k) = σ := by
  unfold wU
  rw [up_id]
theorem gvU_0 {σ : CS} {k : Nat} : gvU σ k 0 = σ := by
  have e : gvU σ k 0 = wU σ k ((σ.2.2.2.2.1 k).1, wO σ k, (σ.2.2.2.2.1 k).2.2.1, (σ.2.2.2.2.1 k).2.2.2.1 + 0, (σ.2.2.2.2.1 k).2.2.2.2.1, (σ.2.2.2.2.1 k).2.2.2.2.2.1, (σ.2.2.2.2.1 k).2.2.2.2.2.2.1, (σ.2.2.2.2.1 k).2.2.2.2.2.2.2) := rfl
  rw [e, Int32.add_zero]
  exact wU_id
theorem wU_wU {σ : CS} {k : Nat} {a b : WT} : wU (wU σ k a) k b = wU σ k b := by
  unfold wU
  rw [up2]
theorem wk_wU {σ : CS} {k : Nat} {a : WT} : (wU σ k a).2.2.2.2.1 k = a := up_s
theorem gvU_s {σ : CS} {k m : Nat} : gvU (gvU σ k m) k 1 = gvU σ k (m + 1) := by
  have e : (gvU σ k m).2.2.2.2.1 k = ((σ.2.2.2.2.1 k).1, wO σ k, (σ.2.2.2.2.1 k).2.2.1, (σ.2.2.2.2.1 k).2.2.2.1 + nI m, (σ.2.2.2.2.1 k).2.2.2.2.1, (σ.2.2.2.2.1 k).2.2.2.2.2.1, if m = 0 then (σ.2.2.2.2.1 k).2.2.2.2.2.2.1 else σ.2.2.2.1 (wO σ k), if m = 0 then (σ.2.2.2.2.1 k).2.2.2.2.2.2.2 else true) := wk_wU
  rw [gvU_1]
  have e2 : wO (gvU σ k m) k = wO σ k := by unfold wO; rw [e]; rfl
  rw [e2, e]
  unfold gvU
  rw [wU_wU, if_neg (Nat.succ_ne_zero m), if_neg (Nat.succ_ne_zero m)]
  rw [show (σ.2.2.2.2.1 k).2.2.2.1 + nI m + 1 = (σ.2.2.2.2.1 k).2.2.2.1 + nI (m + 1) from by rw [Int32.add_assoc, nI_1]]
  rfl
theorem wAh_g {σ : CS} {k m A : Nat} (h : wAh σ k = nI A) : wAh (gvU σ k m) k = nI (A + m) := by
  have e : (gvU σ k m).2.2.2.2.1 k = ((σ.2.2.2.2.1 k).1, wO σ k, (σ.2.2.2.2.1 k).2.2.1, (σ.2.2.2.2.1 k).2.2.2.1 + nI m, (σ.2.2.2.2.1 k).2.2.2.2.1, (σ.2.2.2.2.1 k).2.2.2.2.2.1, if m = 0 then (σ.2.2.2.2.1 k).2.2.2.2.2.2.1 else σ.2.2.2.1 (wO σ k), if m = 0 then (σ.2.2.2.2.1 k).2.2.2.2.2.2.2 else true) := wk_wU
  unfold wAh at h ⊢
  rw [e]
  show (σ.2.2.2.2.1 k).2.2.2.1 + nI m - (σ.2.2.2.2.1 k).2.2.2.2.1 = _
  rw [Int32.sub_eq_add_neg, Int32.add_assoc, Int32.add_comm (nI m), ← Int32.add_assoc, ← Int32.sub_eq_add_neg, h, nI_add]
theorem wO_g {σ : CS} {k m : Nat} : wO (gvU σ k m) k = wO σ k := by
  unfold wO gvU wU
  show (up σ.2.2.2.2.1 k _ k).2.1 = _
  rw [up_s]
  rfl
theorem wMk_g {σ : CS} {k m : Nat} : ((gvU σ k m).2.2.2.2.1 k).1 = (σ.2.2.2.2.1 k).1 := by
  unfold gvU wU
  show (up σ.2.2.2.2.1 k _ k).1 = _
  rw [up_s]
theorem wSt_g {σ : CS} {k m : Nat} : wSt (gvU σ k m) k = wSt σ k := by
  unfold wSt
  rw [wO_g]
  have e : ((gvU σ k m).2.2.2.2.1 k).2.2.2.2.2.1 = (σ.2.2.2.2.1 k).2.2.2.2.2.1 := by
    unfold gvU wU
    show (up σ.2.2.2.2.1 k _ k).2.2.2.2.2.1 = _
    rw [up_s]
  rw [e]
  rfl
/-- the rest that a WALK has: so many steps are made -/
theorem wGu_eq {σ : CS} {k A m : Nat} (hs : wSt σ k = false) (hc : σ.2.1 (wO σ k) ≤ 12) (hA : wAh σ k = nI A) (hAc : A ≤ σ.2.1 (wO σ k)) (hm : σ.2.1 (wO σ k) - A ≤ m) : wGu σ k m = σ.2.1 (wO σ k) - A := by
  have e0 : σ.2.2.1 (wO σ k) = (σ.2.2.2.2.1 k).2.2.2.2.2.1 := Decidable.of_not_not (of_decide_eq_false hs)
  unfold wGu
  have gen : ∀ (m A : Nat) (gi : Int32), gi - (σ.2.2.2.2.1 k).2.2.2.2.1 = nI A → A ≤ σ.2.1 (wO σ k) → σ.2.1 (wO σ k) - A ≤ m → guN (σ.2.1 (wO σ k)) (σ.2.2.1 (wO σ k)) (σ.2.2.2.2.1 k).2.2.2.2.1 (σ.2.2.2.2.1 k).2.2.2.2.2.1 gi m = σ.2.1 (wO σ k) - A := by
    intro m
    induction m with
    | zero => intro A gi _ h2 h3; unfold guN; omega
    | succ m ih =>
      intro A gi h1 h2 h3
      unfold guN
      rw [hmB_m e0, h1]
      by_cases q : A < σ.2.1 (wO σ k)
      · rw [if_pos (decide_eq_true (nI_lt q (by omega)))]
        have h4 : gi + 1 - (σ.2.2.2.2.1 k).2.2.2.2.1 = nI (A + 1) := by
          rw [Int32.sub_eq_add_neg, Int32.add_assoc, Int32.add_comm 1, ← Int32.add_assoc, ← Int32.sub_eq_add_neg, h1, nI_1]
        rw [ih (A + 1) (gi + 1) h4 (by omega) (by omega)]
        omega
      · rw [if_neg (by rw [decide_eq_false (nI_nlt (by omega) (by omega))]; decide)]
        omega
  exact gen m A _ hA hAc hm
theorem wGu_c {σ : CS} {k A : Nat} (hs : wSt σ k = false) (hc : σ.2.1 (wO σ k) ≤ 12) (hA : wAh σ k = nI A) (hAc : A ≤ σ.2.1 (wO σ k)) {m : Nat} : wGu σ k m = if σ.2.1 (wO σ k) - A ≤ m then σ.2.1 (wO σ k) - A else m := by
  by_cases q : σ.2.1 (wO σ k) - A ≤ m
  · rw [if_pos q, wGu_eq hs hc hA hAc q]
  · rw [if_neg q]
    have e0 : σ.2.2.1 (wO σ k) = (σ.2.2.2.2.1 k).2.2.2.2.2.1 := Decidable.of_not_not (of_decide_eq_false hs)
    unfold wGu
    have gen : ∀ (m A : Nat) (gi : Int32), gi - (σ.2.2.2.2.1 k).2.2.2.2.1 = nI A → A + m ≤ σ.2.1 (wO σ k) → guN (σ.2.1 (wO σ k)) (σ.2.2.1 (wO σ k)) (σ.2.2.2.2.1 k).2.2.2.2.1 (σ.2.2.2.2.1 k).2.2.2.2.2.1 gi m = m := by
      intro m
      induction m with
      | zero => intro A gi _ h2; unfold guN; rfl
      | succ m ih =>
        intro A gi h1 h2
        unfold guN
        rw [hmB_m e0, h1, if_pos (decide_eq_true (nI_lt (by omega) (by omega)))]
        have h4 : gi + 1 - (σ.2.2.2.2.1 k).2.2.2.2.1 = nI (A + 1) := by
          rw [Int32.sub_eq_add_neg, Int32.add_assoc, Int32.add_comm 1, ← Int32.add_assoc, ← Int32.sub_eq_add_neg, h1, nI_1]
        rw [ih (A + 1) (gi + 1) h4 (by omega)]
    exact gen m A _ hA (by omega)
theorem q_leave {h : AH} {d bc bs n : Nat} {ρ : Nat → Nat → Int32} {τ : Nat → Int32} {σ : CS} {th : Int32} {p : Nat} (hM : MM h ρ τ σ th) (hA : AG ρ τ σ) {k : Nat} (hk : k < 11) (hc : σ.2.1 k ≤ 12) (h5 : ¬ kdO k = 5 → p < σ.2.1 k) (h6 : kdO k = 5 → (σ.2.1 6 ≤ 12 ∧ p < σ.2.1 6 ∧ σ.2.1 7 ≤ 12 ∧ p < σ.2.1 7)) (hd : 1 ≤ d) : SM SR0 MX5_leave d bc bs [.ref 135, .int (nI k), .int (nI p)] h n (RP h n none (liU σ k p) th) := by
  obtain ⟨G0, hG0, eG0⟩ := hM.out
  refine sm_of pn_OverwalksModel rfl (Nat.le_of_ble_eq_true rfl) ?_
  refine sw_iload_n (pc' := 1) rfl dX5_leave_0 rfl ?_
  refine sw_S (M' := MX5_isTable) (d' := d - 1) (bc' := 0) (bs' := 0) (as := [_]) dX5_leave_1 w_1178 ok_X5_isTable (q_isTable) (by omega) (Nat.le_of_ble_eq_true rfl) (Nat.zero_le _) (Nat.zero_le _) (fun E h' n' _ z => det_x z) (det_k ?_)
  rw [tb_k hk]
  refine sw_if_eq (pc' := 7) (tgt := 24) rfl dX5_leave_4 (by decide +kernel) (fun c4 => ?_) (fun c4 => ?_)
  · refine sw_aload_n (pc' := 25) rfl dX5_leave_24 rfl ?_
    refine sw_iload_n (pc' := 26) rfl dX5_leave_25 rfl ?_
    refine sw_iload_n (pc' := 27) rfl dX5_leave_26 rfl ?_
    refine sw_V (M' := MX5_goAt) (d' := d - 1) (bc' := 0) (bs' := 0) (ci := 6) (as := [_, _]) dX5_leave_27 w_1227 ok_X5_goAt (q_goAt hM hA hk hc (h5 (of_decide_eq_false (bI_0 c4)))) hM.ob rfl (by omega) (Nat.le_of_ble_eq_true rfl) (Nat.zero_le _) (Nat.zero_le _) (fun E h' n' _ z => rp_x z) (rp_k (fun pc pcρ pcτ pcM pcA pcF => ?_))
    obtain ⟨Gpc, hGpc, eGpc⟩ := pcM.out
    refine sw_ret (v := none) ⟨dX5_leave_30, rfl⟩ ?_
    rw [liU, if_neg (of_decide_eq_false (bI_0 c4))]
    exact ⟨rfl, rfl, ⟨_, _, pcM, pcA⟩, pcF⟩
  · refine sw_aload_n (pc' := 8) rfl dX5_leave_7 rfl ?_
    refine sw_bipush (pc' := 10) (v := 6) rfl dX5_leave_8 (by decide +kernel) ?_
    refine sw_iload_n (pc' := 11) rfl dX5_leave_10 rfl ?_
    refine sw_V (M' := MX5_goAt) (d' := d - 1) (bc' := 0) (bs' := 0) (ci := 6) (as := [_, _]) dX5_leave_11 w_1227 ok_X5_goAt (q_goAt (k := 6) hM hA (by omega) (h6 (of_decide_eq_true (bI_1 c4))).1 (h6 (of_decide_eq_true (bI_1 c4))).2.1) hM.ob rfl (by omega) (Nat.le_of_ble_eq_true rfl) (Nat.zero_le _) (Nat.zero_le _) (fun E h' n' _ z => rp_x z) (rp_k (fun pa paρ paτ paM paA paF => ?_))
    obtain ⟨Gpa, hGpa, eGpa⟩ := paM.out
    refine sw_aload_n (pc' := 15) rfl dX5_leave_14 rfl ?_
    refine sw_bipush (pc' := 17) (v := 7) rfl dX5_leave_15 (by decide +kernel) ?_
    refine sw_iload_n (pc' := 18) rfl dX5_leave_17 rfl ?_
    refine sw_V (M' := MX5_goAt) (d' := d - 1) (bc' := 0) (bs' := 0) (ci := 6) (as := [_, _]) dX5_leave_18 w_1227 ok_X5_goAt (q_goAt (k := 7) (p := p) paM paA (by omega) (h6 (of_decide_eq_true (bI_1 c4))).2.2.1 (h6 (of_decide_eq_true (bI_1 c4))).2.2.2) paM.ob rfl (by omega) (Nat.le_of_ble_eq_true rfl) (Nat.zero_le _) (Nat.zero_le _) (fun E h' n' _ z => rp_x z) (rp_k (fun pb pbρ pbτ pbM pbA pbF => ?_))
    obtain ⟨Gpb, hGpb, eGpb⟩ := pbM.out
    refine sw_goto (tgt := 30) dX5_leave_21 (by decide +kernel) ?_
    refine sw_ret (v := none) ⟨dX5_leave_30, rfl⟩ ?_
    rw [liU, if_pos (of_decide_eq_true (bI_1 c4))]
    exact ⟨rfl, rfl, ⟨_, _, pbM, pbA⟩, paF.tr pbF (Nat.le_refl _)⟩
theorem ql_come {h : AH} {d bc bs n : Nat} {ρ : Nat → Nat → Int32} {τ : Nat → Int32} {σ : CS} {th : Int32} {x : Int32} (hM : MM h ρ τ σ th) (hA : AG ρ τ σ) (hs : srt (σ.1 3) (σ.2.1 3)) (hx : ∀ i, i < σ.2.1 3 → σ.1 3 i ≠ x) (hc : σ.2.1 3 < 12) (hd : 1 ≤ d) (m : Nat) : m ≤ σ.2.1 3 → (∀ i, m ≤ i → i < σ.2.1 3 → ¬ σ.1 3 i < x) → SW SR0 MX5_come d bc bs 28 [(3, .int (nI m)), (0, .ref 135), (1, .int (nI 3)), (2, .int x)] [] h n (RP h n (some (.int 1)) (la2 σ 3 (rpN (σ.1 3) x 0 (σ.2.1 3)) x) th) := by
  obtain ⟨G0, hG0, eG0⟩ := hM.out
  have fn : ∀ m, m ≤ σ.2.1 3 → (∀ i, i < m → σ.1 3 i < x) → (∀ i, m ≤ i → i < σ.2.1 3 → ¬ σ.1 3 i < x) → rpN (σ.1 3) x 0 (σ.2.1 3) = m := fun m h1 h2 h3 => rpN_eq (Nat.zero_le _) (by omega) (fun i _ h => h2 i h) (fun i h1 h2 => h3 i h1 (by omega))
  induction m with
  | zero =>
    intro hm hg
    have ep := fn 0 (Nat.zero_le _) (fun i hi => absurd hi (Nat.not_lt_zero _)) hg
    refine sw_iload_n (pc' := 29) rfl dX5_come_28 rfl ?_
    refine sw_iconst (pc' := 30) (v := 3) rfl dX5_come_29 (by decide +kernel) ?_
    refine sw_icmp_ne (pc' := 33) (tgt := 57) rfl dX5_come_30 (by decide +kernel) (fun c30 => ?_) (fun c30 => ?_)
    · exact absurd c30 (by decide +kernel)
    · refine sw_iload_n (pc' := 34) rfl dX5_come_33 rfl ?_
      refine sw_if_le (pc' := 37) (tgt := 57) rfl dX5_come_34 (by decide +kernel) (fun c34 => ?_) (fun c34 => ?_)
      · rw [ep]
        refine sw_aload_n (pc' := 58) rfl dX5_come_57 rfl ?_
        refine sw_iload_n (pc' := 59) rfl dX5_come_58 rfl ?_
        refine sw_iload_n (pc' := 60) rfl dX5_come_59 rfl ?_
        refine sw_iload_n (pc' := 61) rfl dX5_come_60 rfl ?_
        refine sw_V (M' := MX5_comeAt) (d' := d - 1) (bc' := 0) (bs' := 0) (ci := 6) (as := [_, _, _]) dX5_come_61 w_1199 ok_X5_comeAt (q_comeAt hM hA (by omega) (by omega) (by omega)) hM.ob rfl (by omega) (Nat.le_of_ble_eq_true rfl) (Nat.zero_le _) (Nat.zero_le _) (fun E h' n' _ z => rp_x z) (rp_k (fun p pρ pτ pM pA pF => ?_))
        obtain ⟨Gp, hGp, eGp⟩ := pM.out
        refine sw_iconst (pc' := 65) (v := 1) rfl dX5_come_64 (by decide +kernel) ?_
        refine sw_ret (v := some _) ⟨dX5_come_65, _, rfl, rfl⟩ ?_
        exact ⟨rfl, rfl, ⟨_, _, pM, pA⟩, pF⟩
      · exact absurd (Int32.le_refl 0) c34
  | succ m ih =>
    intro hm hg
    refine sw_iload_n (pc' := 29) rfl dX5_come_28 rfl ?_
    refine sw_iconst (pc' := 30) (v := 3) rfl dX5_come_29 (by decide +kernel) ?_
    refine sw_icmp_ne (pc' := 33) (tgt := 57) rfl dX5_come_30 (by decide +kernel) (fun c30 => ?_) (fun c30 => ?_)
    · exact absurd c30 (by decide +kernel)
    · refine sw_iload_n (pc' := 34) rfl dX5_come_33 rfl ?_
      refine sw_if_le (pc' := 37) (tgt := 57) rfl dX5_come_34 (by decide +kernel) (fun c34 => ?_) (fun c34 => ?_)
      · exact absurd c34 (nI_nle (by omega) (by omega))
      · refine sw_aload_n (pc' := 38) rfl dX5_come_37 rfl ?_
        refine sw_getf (ci := 6) (k := 3) (pc' := 41) rfl dX5_come_38 (by decide +kernel) w_1116 hM.ob rfl ?_
        refine sw_iload_n (pc' := 42) rfl dX5_come_41 rfl ?_
        refine sw_aald (j := 3) (pc' := 43) rfl dX5_come_42 hG0 (by decide +kernel) (by decide +kernel) rfl (by omega) (by decide +kernel) (eG0 3 (by omega)) ?_
        refine sw_iload_n (pc' := 44) rfl dX5_come_43 rfl ?_
        refine sw_iconst (pc' := 45) (v := 1) rfl dX5_come_44 (by decide +kernel) ?_
        refine sw_isub (pc' := 46) rfl dX5_come_45 ?_
        refine sw_iald (j := m) (pc' := 47) rfl dX5_come_46 (hM.row (k := 3) (by omega)) (nI_pred m) (by omega) (by decide +kernel) ?_
        rw [hA.1 3 (by omega) m (by omega)]
        refine sw_iload_n (pc' := 48) rfl dX5_come_47 rfl ?_
        refine sw_icmp_le (pc' := 51) (tgt := 57) rfl dX5_come_48 (by decide +kernel) (fun c48 => ?_) (fun c48 => ?_)
        · have hlt : σ.1 3 m < x := Int32.lt_of_le_of_ne c48 (hx m (by omega))
          have ep := fn (m + 1) hm (srt_up hs (by omega) hlt) hg
          rw [ep]
          refine sw_aload_n (pc' := 58) rfl dX5_come_57 rfl ?_
          refine sw_iload_n (pc' := 59) rfl dX5_come_58 rfl ?_
          refine sw_iload_n (pc' := 60) rfl dX5_come_59 rfl ?_
          refine sw_iload_n (pc' := 61) rfl dX5_come_60 rfl ?_
          refine sw_V (M' := MX5_comeAt) (d' := d - 1) (bc' := 0) (bs' := 0) (ci := 6) (as := [_, _, _]) dX5_come_61 w_1199 ok_X5_comeAt (q_comeAt hM hA (by omega) (by omega) (by omega)) hM.ob rfl (by omega) (Nat.le_of_ble_eq_true rfl) (Nat.zero_le _) (Nat.zero_le _) (fun E h' n' _ z => rp_x z) (rp_k (fun p pρ pτ pM pA pF => ?_))
          obtain ⟨Gp, hGp, eGp⟩ := pM.out
          refine sw_iconst (pc' := 65) (v := 1) rfl dX5_come_64 (by decide +kernel) ?_
          refine sw_ret (v := some _) ⟨dX5_come_65, _, rfl, rfl⟩ ?_
          exact ⟨rfl, rfl, ⟨_, _, pM, pA⟩, pF⟩
        · refine sw_iinc (pc' := 54) (lv' := [(3, _), (0, _), (1, _), (2, _)]) (v := nI m) rfl dX5_come_51 rfl ((i_m1 _).trans (nI_pred m)) (by decide +kernel) rfl ?_
          refine sw_goto (tgt := 28) dX5_come_54 (by decide +kernel) ?_
          refine ih (by omega) (fun i h1 h2 => ?_)
          by_cases e : i = m
          · rw [e]; exact Int32.not_lt.mpr (Int32.le_of_lt (Int32.not_le.mp c48))
          · exact hg i (by omega) h2
theorem q_come {h : AH} {d bc bs n : Nat} {ρ : Nat → Nat → Int32} {τ : Nat → Int32} {σ : CS} {th : Int32} {x : Int32} (hM : MM h ρ τ σ th) (hA : AG ρ τ σ) {k : Nat} (hk : k < 11) (hs : k = 3 → srt (σ.1 k) (σ.2.1 k)) (hc : σ.2.1 k < 12) (hd : 2 ≤ d) : SM SR0 MX5_come d bc bs [.ref 135, .int (nI k), .int x] h n (RP h n (some (.int (bI (ldY (σ.1 k) (σ.2.1 k) (kdO k) x)))) (ldU σ k x) th) := by
  obtain ⟨G0, hG0, eG0⟩ := hM.out
  refine sm_of pn_OverwalksModel rfl (Nat.le_of_ble_eq_true rfl) ?_
  by_cases k3 : k = 3
  · subst k3
    refine sw_iload_n (pc' := 1) rfl dX5_come_0 rfl ?_
    refine sw_iconst (pc' := 2) (v := 3) rfl dX5_come_1 (by decide +kernel) ?_
    refine sw_icmp_eq (pc' := 5) (tgt := 10) rfl dX5_come_2 (by decide +kernel) (fun c2 => ?_) (fun c2 => ?_)
    · refine sw_aload_n (pc' := 11) rfl dX5_come_10 rfl ?_
      refine sw_iload_n (pc' := 12) rfl dX5_come_11 rfl ?_
      refine sw_iload_n (pc' := 13) rfl dX5_come_12 rfl ?_
      refine sw_V (M' := MX5_count) (d' := d - 1) (bc' := 0) (bs' := 0) (ci := 6) (as := [_, _]) dX5_come_13 w_1192 ok_X5_count (q_count hM hA (by omega) (by omega) (by omega)) hM.ob rfl (by omega) (Nat.le_of_ble_eq_true rfl) (Nat.zero_le _) (Nat.zero_le _) (fun E h' n' _ z => det_x z) (det_k ?_)
      have hl := coN_le (f := σ.1 3) (x := x) (m := σ.2.1 3) (j := 0)
      refine sw_if_le (pc' := 19) (tgt := 21) rfl dX5_come_16 (by decide +kernel) (fun c16 => ?_) (fun c16 => ?_)
      · refine sw_aload_n (pc' := 22) rfl dX5_come_21 rfl ?_
        refine sw_getf (ci := 6) (k := 4) (pc' := 25) rfl dX5_come_22 (by decide +kernel) w_1117 hM.ob rfl ?_
        refine sw_iload_n (pc' := 26) rfl dX5_come_25 rfl ?_
        refine sw_iald (j := 3) (pc' := 27) rfl dX5_come_26 hM.sz rfl (by omega) (by decide +kernel) ?_
        refine sw_istore_n (pc' := 28) (lv' := [(3, _), (0, _), (1, _), (2, _)]) rfl dX5_come_27 (by decide +kernel) rfl ?_
        have e9 : (fpN (σ.1 3) x 0 (σ.2.1 3)).isSome = false := fp_of_co (fun g => absurd ((nI_gt0 (by omega)).mpr g) (Int32.not_lt.mpr c16))
        have e1 : ldY (σ.1 3) (σ.2.1 3) (kdO 3) x = true := by rw [ldY, e9]; rfl
        rw [ldU_p (p := rpN (σ.1 3) x 0 (σ.2.1 3)) e1 rfl, e1]
        exact ql_come hM hA (hs rfl) (fpN_isS e9) hc (by omega) _ (Nat.le_refl _) (fun i h1 h2 => absurd h2 (by omega))
      · refine sw_iconst (pc' := 20) (v := 0) rfl dX5_come_19 (by decide +kernel) ?_
        refine sw_ret (v := some _) ⟨dX5_come_20, _, rfl, rfl⟩ ?_
        have e1 : ldY (σ.1 3) (σ.2.1 3) (kdO 3) x = false := by rw [ldY, fp_of_co1 ((nI_gt0 (by omega)).mp (Int32.not_le.mp c16))]; rfl
        rw [ldU_n e1, e1]
        exact ⟨rfl, rfl, ⟨_, _, hM, hA⟩, FrM.rf⟩
    · exact absurd c2 (by decide +kernel)
  · by_cases k4 : k = 4
    · subst k4
      refine sw_iload_n (pc' := 1) rfl dX5_come_0 rfl ?_
      refine sw_iconst (pc' := 2) (v := 3) rfl dX5_come_1 (by decide +kernel) ?_
      refine sw_icmp_eq (pc' := 5) (tgt := 10) rfl dX5_come_2 (by decide +kernel) (fun c2 => ?_) (fun c2 => ?_)
      · exact absurd c2 (by decide +kernel)
      · refine sw_iload_n (pc' := 6) rfl dX5_come_5 rfl ?_
        refine sw_iconst (pc' := 7) (v := 4) rfl dX5_come_6 (by decide +kernel) ?_
        refine sw_icmp_ne (pc' := 10) (tgt := 21) rfl dX5_come_7 (by decide +kernel) (fun c7 => ?_) (fun c7 => ?_)
        · exact absurd c7 (by decide +kernel)
        · refine sw_aload_n (pc' := 11) rfl dX5_come_10 rfl ?_
          refine sw_iload_n (pc' := 12) rfl dX5_come_11 rfl ?_
          refine sw_iload_n (pc' := 13) rfl dX5_come_12 rfl ?_
          refine sw_V (M' := MX5_count) (d' := d - 1) (bc' := 0) (bs' := 0) (ci := 6) (as := [_, _]) dX5_come_13 w_1192 ok_X5_count (q_count hM hA (by omega) (by omega) (by omega)) hM.ob rfl (by omega) (Nat.le_of_ble_eq_true rfl) (Nat.zero_le _) (Nat.zero_le _) (fun E h' n' _ z => det_x z) (det_k ?_)
          have hl := coN_le (f := σ.1 4) (x := x) (m := σ.2.1 4) (j := 0)
          refine sw_if_le (pc' := 19) (tgt := 21) rfl dX5_come_16 (by decide +kernel) (fun c16 => ?_) (fun c16 => ?_)
          · refine sw_aload_n (pc' := 22) rfl dX5_come_21 rfl ?_
            refine sw_getf (ci := 6) (k := 4) (pc' := 25) rfl dX5_come_22 (by decide +kernel) w_1117 hM.ob rfl ?_
            refine sw_iload_n (pc' := 26) rfl dX5_come_25 rfl ?_
            refine sw_iald (j := 4) (pc' := 27) rfl dX5_come_26 hM.sz rfl (by omega) (by decide +kernel) ?_
            refine sw_istore_n (pc' := 28) (lv' := [(3, _), (0, _), (1, _), (2, _)]) rfl dX5_come_27 (by decide +kernel) rfl ?_
            refine sw_iload_n (pc' := 29) rfl dX5_come_28 rfl ?_
            refine sw_iconst (pc' := 30) (v := 3) rfl dX5_come_29 (by decide +kernel) ?_
            refine sw_icmp_ne (pc' := 33) (tgt := 57) rfl dX5_come_30 (by decide +kernel) (fun c30 => ?_) (fun c30 => ?_)
            · have e9 : (fpN (σ.1 4) x 0 (σ.2.1 4)).isSome = false := fp_of_co (fun g => absurd ((nI_gt0 (by omega)).mpr g) (Int32.not_lt.mpr c16))
              have e1 : ldY (σ.1 4) (σ.2.1 4) (kdO 4) x = true := by rw [ldY, e9]; rfl
              rw [ldU_p (p := σ.2.1 4) e1 rfl, e1]
              refine sw_aload_n (pc' := 58) rfl dX5_come_57 rfl ?_
              refine sw_iload_n (pc' := 59) rfl dX5_come_58 rfl ?_
              refine sw_iload_n (pc' := 60) rfl dX5_come_59 rfl ?_
              refine sw_iload_n (pc' := 61) rfl dX5_come_60 rfl ?_
              refine sw_V (M' := MX5_comeAt) (d' := d - 1) (bc' := 0) (bs' := 0) (ci := 6) (as := [_, _, _]) dX5_come_61 w_1199 ok_X5_comeAt (q_comeAt hM hA (by omega) (by omega) (by omega)) hM.ob rfl (by omega) (Nat.le_of_ble_eq_true rfl) (Nat.zero_le _) (Nat.zero_le _) (fun E h' n' _ z => rp_x z) (rp_k (fun p pρ pτ pM pA pF => ?_))
              obtain ⟨Gp, hGp, eGp⟩ := pM.out
              refine sw_iconst (pc' := 65) (v := 1) rfl dX5_come_64 (by decide +kernel) ?_
              refine sw_ret (v := some _) ⟨dX5_come_65, _, rfl, rfl⟩ ?_
              exact ⟨rfl, rfl, ⟨_, _, pM, pA⟩, pF⟩
            · exact absurd c30 (by decide +kernel)
          · refine sw_iconst (pc' := 20) (v := 0) rfl dX5_come_19 (by decide +kernel) ?_
            refine sw_ret (v := some _) ⟨dX5_come_20, _, rfl, rfl⟩ ?_
            have e1 : ldY (σ.1 4) (σ.2.1 4) (kdO 4) x = false := by rw [ldY, fp_of_co1 ((nI_gt0 (by omega)).mp (Int32.not_le.mp c16))]; rfl
            rw [ldU_n e1, e1]
            exact ⟨rfl, rfl, ⟨_, _, hM, hA⟩, FrM.rf⟩
    · have e1 : ldY (σ.1 k) (σ.2.1 k) (kdO k) x = true := by rw [ldY, kE_n hk k3 k4]; rfl
      have ep : ldP (σ.1 k) (σ.2.1 k) (kdO k) x = σ.2.1 k := if_neg (fun e => k3 (kdO_3 hk e))
      rw [ldU_p e1 ep, e1]
      refine sw_iload_n (pc' := 1) rfl dX5_come_0 rfl ?_
      refine sw_iconst (pc' := 2) (v := 3) rfl dX5_come_1 (by decide +kernel) ?_
      refine sw_icmp_eq (pc' := 5) (tgt := 10) rfl dX5_come_2 (by decide +kernel) (fun c2 => ?_) (fun c2 => ?_)
      · exact absurd ((nI_eq (b := 3) (by omega) (by decide +kernel)).mp c2) k3
      · refine sw_iload_n (pc' := 6) rfl dX5_come_5 rfl ?_
        refine sw_iconst (pc' := 7) (v := 4) rfl dX5_come_6 (by decide +kernel) ?_
        refine sw_icmp_ne (pc' := 10) (tgt := 21) rfl dX5_come_7 (by decide +kernel) (fun c7 => ?_) (fun c7 => ?_)
        · refine sw_aload_n (pc' := 22) rfl dX5_come_21 rfl ?_
          refine sw_getf (ci := 6) (k := 4) (pc' := 25) rfl dX5_come_22 (by decide +kernel) w_1117 hM.ob rfl ?_
          refine sw_iload_n (pc' := 26) rfl dX5_come_25 rfl ?_
          refine sw_iald (j := k) (pc' := 27) rfl dX5_come_26 hM.sz rfl (by omega) (by decide +kernel) ?_
          refine sw_istore_n (pc' := 28) (lv' := [(3, _), (0, _), (1, _), (2, _)]) rfl dX5_come_27 (by decide +kernel) rfl ?_
          refine sw_iload_n (pc' := 29) rfl dX5_come_28 rfl ?_
          refine sw_iconst (pc' := 30) (v := 3) rfl dX5_come_29 (by decide +kernel) ?_
          refine sw_icmp_ne (pc' := 33) (tgt := 57) rfl dX5_come_30 (by decide +kernel) (fun c30 => ?_) (fun c30 => ?_)
          · refine sw_aload_n (pc' := 58) rfl dX5_come_57 rfl ?_
            refine sw_iload_n (pc' := 59) rfl dX5_come_58 rfl ?_
            refine sw_iload_n (pc' := 60) rfl dX5_come_59 rfl ?_
            refine sw_iload_n (pc' := 61) rfl dX5_come_60 rfl ?_
            refine sw_V (M' := MX5_comeAt) (d' := d - 1) (bc' := 0) (bs' := 0) (ci := 6) (as := [_, _, _]) dX5_come_61 w_1199 ok_X5_comeAt (q_comeAt hM hA (by omega) (by omega) (by omega)) hM.ob rfl (by omega) (Nat.le_of_ble_eq_true rfl) (Nat.zero_le _) (Nat.zero_le _) (fun E h' n' _ z => rp_x z) (rp_k (fun p pρ pτ pM pA pF => ?_))
            obtain ⟨Gp, hGp, eGp⟩ := pM.out
            refine sw_iconst (pc' := 65) (v := 1) rfl dX5_come_64 (by decide +kernel) ?_
            refine sw_ret (v := some _) ⟨dX5_come_65, _, rfl, rfl⟩ ?_
            exact ⟨rfl, rfl, ⟨_, _, pM, pA⟩, pF⟩
          · exact absurd ((nI_eq (b := 3) (by omega) (by decide +kernel)).mp c30) k3
        · exact absurd ((nI_eq (b := 4) (by omega) (by decide +kernel)).mp c7) k4
theorem ql_comeAll {h0 : AH} {d bc bs n k : Nat} {th : Int32} {a B m9 : Nat} {g : Nat → Int32} (hk : k < 11) (hd : 3 ≤ d) (ha : 158 ≤ a) (han : a < n) (hB9 : B < 2 ^ 31) (hmB : m9 ≤ B) (m : Nat) : ∀ (j : Nat) (h : AH) (w : Bool) (ρ : Nat → Nat → Int32) (τ : Nat → Int32) (σ : CS), MM h ρ τ σ th → AG ρ τ σ → h a = .inl (0, B, .inl g) → FrM h0 h n → (k = 3 → srt (σ.1 k) (σ.2.1 k)) → σ.2.1 k + m ≤ 12 → j + m = m9 → SW SR0 MX5_comeAll d bc bs 6 [(5, .int (nI j)), (4, .int (bI w)), (0, .ref 135), (1, .int (nI k)), (2, .ref a), (3, .int (nI m9))] [] h n (RP h0 n (some (.int (bI (caM k g j m w σ).1))) (caM k g j m w σ).2 th) := by
  induction m with
  | zero =>
    intro j h w ρ τ σ hM hA hB hF hs hc hj
    have hj9 : j = m9 := by omega
    subst hj9
    refine sw_iload (pc' := 8) rfl dX5_comeAll_6 rfl ?_
    refine sw_iload_n (pc' := 9) rfl dX5_comeAll_8 rfl ?_
    refine sw_icmp_ge (pc' := 12) (tgt := 32) rfl dX5_comeAll_9 (by decide +kernel) (fun c9 => ?_) (fun c9 => ?_)
    · refine sw_iload (pc' := 34) rfl dX5_comeAll_32 rfl ?_
      refine sw_S (M' := MX5_one) (d' := d - 1) (bc' := 0) (bs' := 0) (as := [_]) dX5_comeAll_34 w_1196 ok_X5_one (q_one (q := w)) (by omega) (Nat.le_of_ble_eq_true rfl) (Nat.zero_le _) (Nat.zero_le _) (fun E h' n' _ z => det_x z) (det_k ?_)
      refine sw_ret (v := some _) ⟨dX5_comeAll_37, _, rfl, rfl⟩ ?_
      exact ⟨rfl, rfl, ⟨_, _, hM, hA⟩, hF⟩
    · exact absurd (Int32.le_refl _) c9
  | succ m ih =>
    intro j h w ρ τ σ hM hA hB hF hs hc hj
    rw [caM]
    refine sw_iload (pc' := 8) rfl dX5_comeAll_6 rfl ?_
    refine sw_iload_n (pc' := 9) rfl dX5_comeAll_8 rfl ?_
    refine sw_icmp_ge (pc' := 12) (tgt := 32) rfl dX5_comeAll_9 (by decide +kernel) (fun c9 => ?_) (fun c9 => ?_)
    · exact absurd c9 (nI_ge (by omega) (by omega))
    · refine sw_iload (pc' := 14) rfl dX5_comeAll_12 rfl ?_
      refine sw_aload_n (pc' := 15) rfl dX5_comeAll_14 rfl ?_
      refine sw_iload_n (pc' := 16) rfl dX5_comeAll_15 rfl ?_
      refine sw_aload_n (pc' := 17) rfl dX5_comeAll_16 rfl ?_
      refine sw_iload (pc' := 19) rfl dX5_comeAll_17 rfl ?_
      refine sw_iald (j := j) (pc' := 20) rfl dX5_comeAll_19 hB rfl (by omega) (by omega) ?_
      refine sw_V (M' := MX5_come) (d' := d - 1) (bc' := 0) (bs' := 0) (ci := 6) (as := [_, _]) dX5_comeAll_20 w_1188 ok_X5_come (q_come hM hA hk hs (by omega) (by omega)) hM.ob rfl (by omega) (Nat.le_of_ble_eq_true rfl) (Nat.zero_le _) (Nat.zero_le _) (fun E h' n' _ z => rp_x z) (rp_k (fun p pρ pτ pM pA pF => ?_))
      obtain ⟨Gp, hGp, eGp⟩ := pM.out
      refine sw_ior (pc' := 24) rfl dX5_comeAll_23 ?_
      rw [bI_or]
      refine sw_istore (pc' := 26) (lv' := [(4, _), (5, _), (0, _), (1, _), (2, _), (3, _)]) rfl dX5_comeAll_24 (by decide +kernel) rfl ?_
      refine sw_iinc (pc' := 29) (lv' := [(5, _), (4, _), (0, _), (1, _), (2, _), (3, _)]) (v := nI (j + 1)) rfl dX5_comeAll_26 rfl (nI_1 j) (by decide +kernel) rfl ?_
      refine sw_goto (tgt := 6) dX5_comeAll_29 (by decide +kernel) ?_
      have hu := ldU_c2 (σ := σ) (k := k) (x := g j)
      exact ih (j + 1) p (w || ldY (σ.1 k) (σ.2.1 k) (kdO k) (g j)) pρ pτ (ldU σ k (g j)) pM pA ((pF a (Or.inr ha) han).trans hB) (hF.tr pF (Nat.le_refl _)) (fun e => ldU_srt e (hs e)) (by omega) (by omega)
theorem q_comeAll {h : AH} {d bc bs n : Nat} {ρ : Nat → Nat → Int32} {τ : Nat → Int32} {σ : CS} {th : Int32} {a B m9 : Nat} {g : Nat → Int32} (hM : MM h ρ τ σ th) (hA : AG ρ τ σ) {k : Nat} (hk : k < 11) (hs : k = 3 → srt (σ.1 k) (σ.2.1 k)) (hc : σ.2.1 k + m9 ≤ 12) (ha : 158 ≤ a) (han : a < n) (hB : h a = .inl (0, B, .inl g)) (hB9 : B < 2 ^ 31) (hmB : m9 ≤ B) (hd : 3 ≤ d) : SM SR0 MX5_comeAll d bc bs [.ref 135, .int (nI k), .ref a, .int (nI m9)] h n (RP h n (some (.int (bI (caM k g 0 m9 false σ).1))) (caM k g 0 m9 false σ).2 th) := by
  refine sm_of pn_OverwalksModel rfl (Nat.le_of_ble_eq_true rfl) ?_
  refine sw_iconst (pc' := 1) (v := 0) rfl dX5_comeAll_0 (by decide +kernel) ?_
  refine sw_istore (pc' := 3) (lv' := [(4, _), (0, _), (1, _), (2, _), (3, _)]) rfl dX5_comeAll_1 (by decide +kernel) rfl ?_
  refine sw_iconst (pc' := 4) (v := 0) rfl dX5_comeAll_3 (by decide +kernel) ?_
  refine sw_istore (pc' := 6) (lv' := [(5, _), (4, _), (0, _), (1, _), (2, _), (3, _)]) rfl dX5_comeAll_4 (by decide +kernel) rfl ?_
  exact ql_comeAll hk hd ha han hB9 hmB m9 0 h false ρ τ σ hM hA hB FrM.rf hs hc (by omega)
