/-! the model: rows -/
theorem nI_m0 (a : Nat) : nI a + bI false = nI a := Int32.add_zero _
theorem coN_le {f : Nat → Int32} {x : Int32} {m : Nat} : ∀ {j : Nat}, coN f x j m ≤ m := by
  induction m with
  | zero => intro j; exact Nat.le_refl _
  | succ m ih =>
    intro j
    unfold coN
    have := @ih (j + 1)
    split <;> omega
theorem coN_s {f : Nat → Int32} {x : Int32} {m : Nat} : ∀ {j : Nat}, decide (0 < coN f x j m) = (fpN f x j m).isSome := by
  induction m with
  | zero => intro j; rfl
  | succ m ih =>
    intro j
    unfold coN fpN
    by_cases e : f j = x
    · rw [if_pos e, if_pos e]
      exact decide_eq_true (by omega)
    · rw [if_neg e, if_neg e, Nat.zero_add]
      exact ih
theorem nI_gt0 {m : Nat} (hm : m < 2 ^ 31) : (0 : Int32) < nI m ↔ 0 < m := nI_ltI (a := 0) (by decide +kernel) hm
/-- k's row with m more than p moved on -/
theorem up2 {α : Type} {f : Nat → α} {i : Nat} {a c : α} : up (up f i a) i c = up f i c := by
  funext j
  unfold up
  split <;> rfl
theorem laN_at {f g : Nat → Int32} {p c : Nat} {x : Int32} (hp : p ≤ c) (h : ∀ j, j < c → g j = f j) : ∀ j, j < c + 1 → laN g p x c j = laN f p x c j := by
  intro j hj
  unfold laN
  by_cases e : j = p
  · subst e; rw [up_s, up_s]
  · rw [up_n e, up_n e]
    unfold mvN
    split
    · exact h _ (by omega)
    · by_cases e2 : j < c
      · exact h _ e2
      · next q => exact absurd ⟨by omega, by omega⟩ q
theorem liN_at {f g : Nat → Int32} {p c : Nat} (h : ∀ j, j < c + 1 → g j = f j) : ∀ j, j < c → liN g p c j = liN f p c j := by
  intro j hj
  unfold liN
  split
  · exact h _ (by omega)
  · exact h _ (by omega)
theorem nI_nle2 {a b : Nat} (h : a < b) (hb : b < 2 ^ 31) : ¬ nI b ≤ nI a := nI_ge h hb
theorem ql_count {h : AH} {d bc bs n : Nat} {ρ : Nat → Nat → Int32} {τ : Nat → Int32} {σ : CS} {th : Int32} {x : Int32} (hM : MM h ρ τ σ th) (hA : AG ρ τ σ) {k : Nat} (hk : k < 11) (hc : σ.2.1 k ≤ 12) (hd : 1 ≤ d) (m : Nat) : ∀ j a, j + m = σ.2.1 k → SW SR0 MX5_count d bc bs 5 [(4, .int (nI j)), (3, .int (nI a)), (0, .ref 135), (1, .int (nI k)), (2, .int x)] [] h n (Det (rI (nI (a + coN (σ.1 k) x j m))) h n) := by
  obtain ⟨G0, hG0, eG0⟩ := hM.out
  induction m with
  | zero =>
    intro j a hj
    have hjc : j = σ.2.1 k := by omega
    subst hjc
    refine sw_iload (pc' := 7) rfl dX5_count_5 rfl ?_
    refine sw_aload_n (pc' := 8) rfl dX5_count_7 rfl ?_
    refine sw_getf (ci := 6) (k := 4) (pc' := 11) rfl dX5_count_8 (by decide +kernel) w_1117 hM.ob rfl ?_
    refine sw_iload_n (pc' := 12) rfl dX5_count_11 rfl ?_
    refine sw_iald (j := k) (pc' := 13) rfl dX5_count_12 hM.sz rfl (by omega) (by decide +kernel) ?_
    refine sw_icmp_ge (pc' := 16) (tgt := 46) rfl dX5_count_13 (by decide +kernel) (fun c13 => ?_) (fun c13 => ?_)
    · refine sw_iload_n (pc' := 47) rfl dX5_count_46 rfl ?_
      refine sw_ret (v := some _) ⟨dX5_count_47, _, rfl, rfl⟩ ?_
      exact ⟨rfl, rfl, rfl⟩
    · exact absurd (Int32.le_refl _) c13
  | succ m ih =>
    intro j a hj
    refine sw_iload (pc' := 7) rfl dX5_count_5 rfl ?_
    refine sw_aload_n (pc' := 8) rfl dX5_count_7 rfl ?_
    refine sw_getf (ci := 6) (k := 4) (pc' := 11) rfl dX5_count_8 (by decide +kernel) w_1117 hM.ob rfl ?_
    refine sw_iload_n (pc' := 12) rfl dX5_count_11 rfl ?_
    refine sw_iald (j := k) (pc' := 13) rfl dX5_count_12 hM.sz rfl (by omega) (by decide +kernel) ?_
    refine sw_icmp_ge (pc' := 16) (tgt := 46) rfl dX5_count_13 (by decide +kernel) (fun c13 => ?_) (fun c13 => ?_)
    · exact absurd c13 (nI_ge (by omega) (by omega))
    · refine sw_iload_n (pc' := 17) rfl dX5_count_16 rfl ?_
      refine sw_aload_n (pc' := 18) rfl dX5_count_17 rfl ?_
      refine sw_getf (ci := 6) (k := 3) (pc' := 21) rfl dX5_count_18 (by decide +kernel) w_1116 hM.ob rfl ?_
      refine sw_iload_n (pc' := 22) rfl dX5_count_21 rfl ?_
      refine sw_aald (j := k) (pc' := 23) rfl dX5_count_22 hG0 (by decide +kernel) (by decide +kernel) rfl (by omega) (by decide +kernel) (eG0 k (by omega)) ?_
      refine sw_iload (pc' := 25) rfl dX5_count_23 rfl ?_
      refine sw_iald (j := j) (pc' := 26) rfl dX5_count_25 (hM.row (k := k) (by omega)) rfl (by omega) (by decide +kernel) ?_
      rw [hA.1 k (by omega) j (by omega)]
      refine sw_iload_n (pc' := 27) rfl dX5_count_26 rfl ?_
      refine sw_icmp_ne (pc' := 30) (tgt := 34) rfl dX5_count_27 (by decide +kernel) (fun c27 => ?_) (fun c27 => ?_)
      · refine sw_iconst (pc' := 35) (v := 0) rfl dX5_count_34 (by decide +kernel) ?_
        refine sw_S (M' := MX5_one) (d' := d - 1) (bc' := 0) (bs' := 0) (as := [_]) dX5_count_35 w_1196 ok_X5_one (q_one (q := false)) (by omega) (Nat.le_of_ble_eq_true rfl) (Nat.zero_le _) (Nat.zero_le _) (fun E h' n' _ z => det_x z) (det_k ?_)
        refine sw_iadd (pc' := 39) rfl dX5_count_38 ?_
        rw [nI_m0 a]
        refine sw_istore_n (pc' := 40) (lv' := [(3, _), (4, _), (0, _), (1, _), (2, _)]) rfl dX5_count_39 (by decide +kernel) rfl ?_
        refine sw_iinc (pc' := 43) (lv' := [(4, _), (3, _), (0, _), (1, _), (2, _)]) (v := nI (j + 1)) rfl dX5_count_40 rfl (nI_1 j) (by decide +kernel) rfl ?_
        refine sw_goto (tgt := 5) dX5_count_43 (by decide +kernel) ?_
        rw [coN, if_neg c27, Nat.zero_add]
        exact ih (j + 1) a (by omega)
      · refine sw_iconst (pc' := 31) (v := 1) rfl dX5_count_30 (by decide +kernel) ?_
        refine sw_goto (tgt := 35) dX5_count_31 (by decide +kernel) ?_
        refine sw_S (M' := MX5_one) (d' := d - 1) (bc' := 0) (bs' := 0) (as := [_]) dX5_count_35 w_1196 ok_X5_one (q_one (q := true)) (by omega) (Nat.le_of_ble_eq_true rfl) (Nat.zero_le _) (Nat.zero_le _) (fun E h' n' _ z => det_x z) (det_k ?_)
        refine sw_iadd (pc' := 39) rfl dX5_count_38 ?_
        rw [show nI a + bI true = nI (a + 1) from nI_1 a]
        refine sw_istore_n (pc' := 40) (lv' := [(3, _), (4, _), (0, _), (1, _), (2, _)]) rfl dX5_count_39 (by decide +kernel) rfl ?_
        refine sw_iinc (pc' := 43) (lv' := [(4, _), (3, _), (0, _), (1, _), (2, _)]) (v := nI (j + 1)) rfl dX5_count_40 rfl (nI_1 j) (by decide +kernel) rfl ?_
        refine sw_goto (tgt := 5) dX5_count_43 (by decide +kernel) ?_
        rw [coN, if_pos c27, ← Nat.add_assoc]
        exact ih (j + 1) (a + 1) (by omega)
theorem q_count {h : AH} {d bc bs n : Nat} {ρ : Nat → Nat → Int32} {τ : Nat → Int32} {σ : CS} {th : Int32} {x : Int32} (hM : MM h ρ τ σ th) (hA : AG ρ τ σ) {k : Nat} (hk : k < 11) (hc : σ.2.1 k ≤ 12) (hd : 1 ≤ d) : SM SR0 MX5_count d bc bs [.ref 135, .int (nI k), .int x] h n (Det (rI (nI (coN (σ.1 k) x 0 (σ.2.1 k)))) h n) := by
  refine sm_of pn_OverwalksModel rfl (Nat.le_of_ble_eq_true rfl) ?_
  refine sw_iconst (pc' := 1) (v := 0) rfl dX5_count_0 (by decide +kernel) ?_
  refine sw_istore_n (pc' := 2) (lv' := [(3, _), (0, _), (1, _), (2, _)]) rfl dX5_count_1 (by decide +kernel) rfl ?_
  refine sw_iconst (pc' := 3) (v := 0) rfl dX5_count_2 (by decide +kernel) ?_
  refine sw_istore (pc' := 5) (lv' := [(4, _), (3, _), (0, _), (1, _), (2, _)]) rfl dX5_count_3 (by decide +kernel) rfl ?_
  have g := ql_count (d := d) (bc := bc) (bs := bs) (n := n) (x := x) hM hA hk hc hd (σ.2.1 k) 0 0 (by omega)
  rw [Nat.zero_add] at g
  exact g
theorem ql_firstPlace {h : AH} {d bc bs n : Nat} {ρ : Nat → Nat → Int32} {τ : Nat → Int32} {σ : CS} {th : Int32} {x : Int32} (hM : MM h ρ τ σ th) (hA : AG ρ τ σ) {k : Nat} (hk : k < 11) (hc : σ.2.1 k ≤ 12) (m : Nat) : m ≤ σ.2.1 k → SW SR0 MX5_firstPlace d bc bs 12 [(4, .int (nI m - 1)), (3, .int (opI (fpN (σ.1 k) x m (σ.2.1 k - m)))), (0, .ref 135), (1, .int (nI k)), (2, .int x)] [] h n (Det (rI (opI (fpN (σ.1 k) x 0 (σ.2.1 k)))) h n) := by
  obtain ⟨G0, hG0, eG0⟩ := hM.out
  induction m with
  | zero =>
    intro hm
    refine sw_iload (pc' := 14) rfl dX5_firstPlace_12 rfl ?_
    refine sw_if_lt (pc' := 17) (tgt := 43) rfl dX5_firstPlace_14 (by decide +kernel) (fun c14 => ?_) (fun c14 => ?_)
    · refine sw_iload_n (pc' := 44) rfl dX5_firstPlace_43 rfl ?_
      refine sw_ret (v := some _) ⟨dX5_firstPlace_44, _, rfl, rfl⟩ ?_
      exact ⟨rfl, rfl, rfl⟩
    · exact absurd (by decide +kernel) c14
  | succ m ih =>
    intro hm
    rw [nI_pred]
    refine sw_iload (pc' := 14) rfl dX5_firstPlace_12 rfl ?_
    refine sw_if_lt (pc' := 17) (tgt := 43) rfl dX5_firstPlace_14 (by decide +kernel) (fun c14 => ?_) (fun c14 => ?_)
    · exact absurd c14 (nI_pos (by omega))
    · refine sw_aload_n (pc' := 18) rfl dX5_firstPlace_17 rfl ?_
      refine sw_getf (ci := 6) (k := 3) (pc' := 21) rfl dX5_firstPlace_18 (by decide +kernel) w_1116 hM.ob rfl ?_
      refine sw_iload_n (pc' := 22) rfl dX5_firstPlace_21 rfl ?_
      refine sw_aald (j := k) (pc' := 23) rfl dX5_firstPlace_22 hG0 (by decide +kernel) (by decide +kernel) rfl (by omega) (by decide +kernel) (eG0 k (by omega)) ?_
      refine sw_iload (pc' := 25) rfl dX5_firstPlace_23 rfl ?_
      refine sw_iald (j := m) (pc' := 26) rfl dX5_firstPlace_25 (hM.row (k := k) (by omega)) rfl (by omega) (by decide +kernel) ?_
      rw [hA.1 k (by omega) m (by omega)]
      refine sw_iload_n (pc' := 27) rfl dX5_firstPlace_26 rfl ?_
      refine sw_icmp_ne (pc' := 30) (tgt := 35) rfl dX5_firstPlace_27 (by decide +kernel) (fun c27 => ?_) (fun c27 => ?_)
      · refine sw_iload_n (pc' := 36) rfl dX5_firstPlace_35 rfl ?_
        refine sw_istore_n (pc' := 37) (lv' := [(3, _), (4, _), (0, _), (1, _), (2, _)]) rfl dX5_firstPlace_36 (by decide +kernel) rfl ?_
        refine sw_iinc (pc' := 40) (lv' := [(4, _), (3, _), (0, _), (1, _), (2, _)]) (v := nI m - 1) rfl dX5_firstPlace_37 rfl (i_m1 _) (by decide +kernel) rfl ?_
        refine sw_goto (tgt := 12) dX5_firstPlace_40 (by decide +kernel) ?_
        have g := ih (by omega)
        rw [show σ.2.1 k - m = (σ.2.1 k - (m + 1)) + 1 by omega, fpN, if_neg c27] at g
        exact g
      · refine sw_iload (pc' := 32) rfl dX5_firstPlace_30 rfl ?_
        refine sw_goto (tgt := 36) dX5_firstPlace_32 (by decide +kernel) ?_
        refine sw_istore_n (pc' := 37) (lv' := [(3, _), (4, _), (0, _), (1, _), (2, _)]) rfl dX5_firstPlace_36 (by decide +kernel) rfl ?_
        refine sw_iinc (pc' := 40) (lv' := [(4, _), (3, _), (0, _), (1, _), (2, _)]) (v := nI m - 1) rfl dX5_firstPlace_37 rfl (i_m1 _) (by decide +kernel) rfl ?_
        refine sw_goto (tgt := 12) dX5_firstPlace_40 (by decide +kernel) ?_
        have g := ih (by omega)
        rw [show σ.2.1 k - m = (σ.2.1 k - (m + 1)) + 1 by omega, fpN, if_pos c27] at g
        exact g
theorem q_firstPlace {h : AH} {d bc bs n : Nat} {ρ : Nat → Nat → Int32} {τ : Nat → Int32} {σ : CS} {th : Int32} {x : Int32} (hM : MM h ρ τ σ th) (hA : AG ρ τ σ) {k : Nat} (hk : k < 11) (hc : σ.2.1 k ≤ 12) : SM SR0 MX5_firstPlace d bc bs [.ref 135, .int (nI k), .int x] h n (Det (rI (opI (fpN (σ.1 k) x 0 (σ.2.1 k)))) h n) := by
  obtain ⟨G0, hG0, eG0⟩ := hM.out
  refine sm_of pn_OverwalksModel rfl (Nat.le_of_ble_eq_true rfl) ?_
  refine sw_iconst (pc' := 1) (v := (-1)) rfl dX5_firstPlace_0 (by decide +kernel) ?_
  refine sw_istore_n (pc' := 2) (lv' := [(3, _), (0, _), (1, _), (2, _)]) rfl dX5_firstPlace_1 (by decide +kernel) rfl ?_
  refine sw_aload_n (pc' := 3) rfl dX5_firstPlace_2 rfl ?_
  refine sw_getf (ci := 6) (k := 4) (pc' := 6) rfl dX5_firstPlace_3 (by decide +kernel) w_1117 hM.ob rfl ?_
  refine sw_iload_n (pc' := 7) rfl dX5_firstPlace_6 rfl ?_
  refine sw_iald (j := k) (pc' := 8) rfl dX5_firstPlace_7 hM.sz rfl (by omega) (by decide +kernel) ?_
  refine sw_iconst (pc' := 9) (v := 1) rfl dX5_firstPlace_8 (by decide +kernel) ?_
  refine sw_isub (pc' := 10) rfl dX5_firstPlace_9 ?_
  refine sw_istore (pc' := 12) (lv' := [(4, _), (3, _), (0, _), (1, _), (2, _)]) rfl dX5_firstPlace_10 (by decide +kernel) rfl ?_
  have g := ql_firstPlace (d := d) (bc := bc) (bs := bs) (n := n) (x := x) hM hA hk hc (σ.2.1 k) (Nat.le_refl _)
  rw [Nat.sub_self] at g
  exact g
theorem ql_comeAt {h : AH} {d bc bs n : Nat} {ρ : Nat → Nat → Int32} {τ : Nat → Int32} {σ : CS} {th : Int32} {p : Nat} {x : Int32} (hM : MM h ρ τ σ th) (hA : AG ρ τ σ) {k : Nat} (hk : k < 11) (hc : σ.2.1 k < 12) (m : Nat) : ∀ g : AH, g (137 + k) = .inl (0, 12, .inl (mvN (ρ k) (p + m) (σ.2.1 k))) → (∀ i, i ≠ 137 + k → g i = h i) → p + m ≤ σ.2.1 k → SW SR0 MX5_comeAt d bc bs 8 [(4, .int (nI (p + m))), (0, .ref 135), (1, .int (nI k)), (2, .int (nI p)), (3, .int x)] [] g n (RP h n none (la2 σ k p x) th) := by
  obtain ⟨G0, hG0, eG0⟩ := hM.out
  induction m with
  | zero =>
    intro g hr hF hj
    refine sw_iload (pc' := 10) rfl dX5_comeAt_8 rfl ?_
    refine sw_iload_n (pc' := 11) rfl dX5_comeAt_10 rfl ?_
    refine sw_icmp_le (pc' := 14) (tgt := 40) rfl dX5_comeAt_11 (by decide +kernel) (fun c11 => ?_) (fun c11 => ?_)
    · refine sw_aload_n (pc' := 41) rfl dX5_comeAt_40 rfl ?_
      refine sw_getf (ci := 6) (k := 3) (pc' := 44) rfl dX5_comeAt_41 (by decide +kernel) w_1116 ((hF 135 (by omega)).trans hM.ob) rfl ?_
      refine sw_iload_n (pc' := 45) rfl dX5_comeAt_44 rfl ?_
      refine sw_aald (j := k) (pc' := 46) rfl dX5_comeAt_45 ((hF 136 (by omega)).trans hG0) (by decide +kernel) (by decide +kernel) rfl (by omega) (by decide +kernel) (eG0 k (by omega)) ?_
      refine sw_iload_n (pc' := 47) rfl dX5_comeAt_46 rfl ?_
      refine sw_iload_n (pc' := 48) rfl dX5_comeAt_47 rfl ?_
      refine sw_iast (j := p) (pc' := 49) rfl dX5_comeAt_48 hr (by show 100 ≤ _; omega) rfl (by omega) (by decide +kernel) ?_
      refine sw_nm (fun g1 eg1 => ?_)
      have zg1 := (congrFun eg1 (137 + k)).trans (up_s (h := g) (i := (137 + k)))
      refine sw_aload_n (pc' := 50) rfl dX5_comeAt_49 rfl ?_
      refine sw_getf (ci := 6) (k := 4) (pc' := 53) rfl dX5_comeAt_50 (by decide +kernel) w_1117 (((congrFun eg1 135).trans (up_n (by omega))).trans ((hF 135 (by omega)).trans hM.ob)) rfl ?_
      refine sw_iload_n (pc' := 54) rfl dX5_comeAt_53 rfl ?_
      refine sw_dup2 (pc' := 55) rfl dX5_comeAt_54 rfl rfl ?_
      refine sw_iald (j := k) (pc' := 56) rfl dX5_comeAt_55 (((congrFun eg1 148).trans (up_n (by omega))).trans ((hF 148 (by omega)).trans hM.sz)) rfl (by omega) (by decide +kernel) ?_
      refine sw_iconst (pc' := 57) (v := 1) rfl dX5_comeAt_56 (by decide +kernel) ?_
      refine sw_iadd (pc' := 58) rfl dX5_comeAt_57 ?_
      rw [show (nI (σ.2.1 k)) + 1 = nI (σ.2.1 k + 1) from nI_add _ _]
      refine sw_iast (j := k) (pc' := 59) rfl dX5_comeAt_58 (((congrFun eg1 148).trans (up_n (by omega))).trans ((hF 148 (by omega)).trans hM.sz)) (by decide +kernel) rfl (by omega) (by decide +kernel) ?_
      refine sw_nm (fun g2 eg2 => ?_)
      have zg2 := (congrFun eg2 148).trans (up_s (h := g1) (i := 148))
      refine sw_aload_n (pc' := 60) rfl dX5_comeAt_59 rfl ?_
      refine sw_getf (ci := 6) (k := 5) (pc' := 63) rfl dX5_comeAt_60 (by decide +kernel) w_1118 (((congrFun eg2 135).trans (up_n (by omega))).trans (((congrFun eg1 135).trans (up_n (by omega))).trans ((hF 135 (by omega)).trans hM.ob))) rfl ?_
      refine sw_iload_n (pc' := 64) rfl dX5_comeAt_63 rfl ?_
      refine sw_dup2 (pc' := 65) rfl dX5_comeAt_64 rfl rfl ?_
      refine sw_iald (j := k) (pc' := 66) rfl dX5_comeAt_65 (((congrFun eg2 149).trans (up_n (by omega))).trans (((congrFun eg1 149).trans (up_n (by omega))).trans ((hF 149 (by omega)).trans hM.sf))) rfl (by omega) (by decide +kernel) ?_
      refine sw_iconst (pc' := 67) (v := 1) rfl dX5_comeAt_66 (by decide +kernel) ?_
      refine sw_iadd (pc' := 68) rfl dX5_comeAt_67 ?_
      refine sw_iast (j := k) (pc' := 69) rfl dX5_comeAt_68 (((congrFun eg2 149).trans (up_n (by omega))).trans (((congrFun eg1 149).trans (up_n (by omega))).trans ((hF 149 (by omega)).trans hM.sf))) (by decide +kernel) rfl (by omega) (by decide +kernel) ?_
      refine sw_nm (fun g3 eg3 => ?_)
      have zg3 := (congrFun eg3 149).trans (up_s (h := g2) (i := 149))
      refine sw_ret (v := none) ⟨dX5_comeAt_69, rfl⟩ ?_
      have fin : ∀ i, i ≠ 137 + k → i ≠ 148 → i ≠ 149 → i ≠ 156 → g3 i = h i := fun i h1 h2 h3 _ => (congrFun eg3 i).trans ((up_n (by omega)).trans ((congrFun eg2 i).trans ((up_n (by omega)).trans ((congrFun eg1 i).trans ((up_n (by omega)).trans (hF i h1))))))
      exact ⟨rfl, rfl, ⟨_, _, hM.shU hk (c := σ.2.1 k + 1) (((congrFun eg3 (137 + k)).trans (up_n (by omega))).trans (((congrFun eg2 (137 + k)).trans (up_n (by omega))).trans zg1)) (((congrFun eg3 148).trans (up_n (by omega))).trans zg2) zg3 (by rw [up_id]; exact (((congrFun eg3 156).trans (up_n (by omega))).trans (((congrFun eg2 156).trans (up_n (by omega))).trans (((congrFun eg1 156).trans (up_n (by omega))).trans ((hF 156 (by omega)).trans hM.tu))))) fin, hA.shU (laN_at (by omega) (hA.1 k hk))⟩, FrM.of1 (fun i q => fin i (by omega) (by omega) (by omega) (by omega))⟩
    · exact absurd (Int32.le_refl _) c11
  | succ m ih =>
    intro g hr hF hj
    refine sw_iload (pc' := 10) rfl dX5_comeAt_8 rfl ?_
    refine sw_iload_n (pc' := 11) rfl dX5_comeAt_10 rfl ?_
    refine sw_icmp_le (pc' := 14) (tgt := 40) rfl dX5_comeAt_11 (by decide +kernel) (fun c11 => ?_) (fun c11 => ?_)
    · exact absurd c11 (nI_nle2 (by omega) (by omega))
    · refine sw_aload_n (pc' := 15) rfl dX5_comeAt_14 rfl ?_
      refine sw_getf (ci := 6) (k := 3) (pc' := 18) rfl dX5_comeAt_15 (by decide +kernel) w_1116 ((hF 135 (by omega)).trans hM.ob) rfl ?_
      refine sw_iload_n (pc' := 19) rfl dX5_comeAt_18 rfl ?_
      refine sw_aald (j := k) (pc' := 20) rfl dX5_comeAt_19 ((hF 136 (by omega)).trans hG0) (by decide +kernel) (by decide +kernel) rfl (by omega) (by decide +kernel) (eG0 k (by omega)) ?_
      refine sw_iload (pc' := 22) rfl dX5_comeAt_20 rfl ?_
      refine sw_aload_n (pc' := 23) rfl dX5_comeAt_22 rfl ?_
      refine sw_getf (ci := 6) (k := 3) (pc' := 26) rfl dX5_comeAt_23 (by decide +kernel) w_1116 ((hF 135 (by omega)).trans hM.ob) rfl ?_
      refine sw_iload_n (pc' := 27) rfl dX5_comeAt_26 rfl ?_
      refine sw_aald (j := k) (pc' := 28) rfl dX5_comeAt_27 ((hF 136 (by omega)).trans hG0) (by decide +kernel) (by decide +kernel) rfl (by omega) (by decide +kernel) (eG0 k (by omega)) ?_
      refine sw_iload (pc' := 30) rfl dX5_comeAt_28 rfl ?_
      refine sw_iconst (pc' := 31) (v := 1) rfl dX5_comeAt_30 (by decide +kernel) ?_
      refine sw_isub (pc' := 32) rfl dX5_comeAt_31 ?_
      refine sw_iald (j := p + m) (pc' := 33) rfl dX5_comeAt_32 hr (nI_pred (p + m)) (by omega) (by decide +kernel) ?_
      refine sw_iast (j := p + (m + 1)) (pc' := 34) rfl dX5_comeAt_33 hr (by show 100 ≤ _; omega) rfl (by omega) (by decide +kernel) ?_
      refine sw_nm (fun g4 eg4 => ?_)
      have zg4 := (congrFun eg4 (137 + k)).trans (up_s (h := g) (i := (137 + k)))
      refine sw_iinc (pc' := 37) (lv' := [(4, _), (0, _), (1, _), (2, _), (3, _)]) (v := nI (p + m)) rfl dX5_comeAt_34 rfl ((i_m1 _).trans (nI_pred (p + m))) (by decide +kernel) rfl ?_
      refine sw_goto (tgt := 8) dX5_comeAt_37 (by decide +kernel) ?_
      exact ih g4 ((show up (mvN (ρ k) (p + m + 1) (σ.2.1 k)) (p + m + 1) (mvN (ρ k) (p + m + 1) (σ.2.1 k) (p + m)) = mvN (ρ k) (p + m) (σ.2.1 k) from mvN_s hj) ▸ zg4) (fun i h1 => (congrFun eg4 i).trans ((up_n h1).trans (hF i h1))) (by omega)
theorem q_comeAt {h : AH} {d bc bs n : Nat} {ρ : Nat → Nat → Int32} {τ : Nat → Int32} {σ : CS} {th : Int32} {p : Nat} {x : Int32} (hM : MM h ρ τ σ th) (hA : AG ρ τ σ) {k : Nat} (hk : k < 11) (hc : σ.2.1 k < 12) (hp : p ≤ σ.2.1 k) : SM SR0 MX5_comeAt d bc bs [.ref 135, .int (nI k), .int (nI p), .int x] h n (RP h n none (la2 σ k p x) th) := by
  obtain ⟨G0, hG0, eG0⟩ := hM.out
  refine sm_of pn_OverwalksModel rfl (Nat.le_of_ble_eq_true rfl) ?_
  refine sw_aload_n (pc' := 1) rfl dX5_comeAt_0 rfl ?_
  refine sw_getf (ci := 6) (k := 4) (pc' := 4) rfl dX5_comeAt_1 (by decide +kernel) w_1117 hM.ob rfl ?_
  refine sw_iload_n (pc' := 5) rfl dX5_comeAt_4 rfl ?_
  refine sw_iald (j := k) (pc' := 6) rfl dX5_comeAt_5 hM.sz rfl (by omega) (by decide +kernel) ?_
  refine sw_istore (pc' := 8) (lv' := [(4, _), (0, _), (1, _), (2, _), (3, _)]) rfl dX5_comeAt_6 (by decide +kernel) rfl ?_
  have g := ql_comeAt (d := d) (bc := bc) (bs := bs) (n := n) (p := p) (x := x) hM hA hk hc (σ.2.1 k - p) h (by rw [show p + (σ.2.1 k - p) = σ.2.1 k by omega, mvN_c]; exact hM.row hk) (fun _ _ => rfl) (by omega)
  rw [show p + (σ.2.1 k - p) = σ.2.1 k by omega] at g
  exact g
theorem ql_goAt {h : AH} {d bc bs n : Nat} {ρ : Nat → Nat → Int32} {τ : Nat → Int32} {σ : CS} {th : Int32} {p e : Nat} (hM : MM h ρ τ σ th) (hA : AG ρ τ σ) {k : Nat} (hk : k < 11) (he : σ.2.1 k = e + 1) (hc : e < 12) (m : Nat) : ∀ (i : Nat) (g : AH), i + m = e → p ≤ i → g (137 + k) = .inl (0, 12, .inl (liN (ρ k) p i)) → g 148 = .inl (0, 11, .inl (up (fun j => nI (σ.2.1 j)) k (nI e))) → (∀ i, i ≠ 137 + k → i ≠ 148 → g i = h i) → SW SR0 MX5_goAt d bc bs 12 [(3, .int (nI i)), (0, .ref 135), (1, .int (nI k)), (2, .int (nI p))] [] g n (RP h n none (lf1 σ k p) th) := by
  obtain ⟨G0, hG0, eG0⟩ := hM.out
  induction m with
  | zero =>
    intro i g hi hj hr hs hF
    have hie : i = e := by omega
    subst hie
    refine sw_iload_n (pc' := 13) rfl dX5_goAt_12 rfl ?_
    refine sw_aload_n (pc' := 14) rfl dX5_goAt_13 rfl ?_
    refine sw_getf (ci := 6) (k := 4) (pc' := 17) rfl dX5_goAt_14 (by decide +kernel) w_1117 ((hF 135 (by omega) (by omega)).trans hM.ob) rfl ?_
    refine sw_iload_n (pc' := 18) rfl dX5_goAt_17 rfl ?_
    refine sw_iald (j := k) (pc' := 19) rfl dX5_goAt_18 hs rfl (by omega) (by decide +kernel) ?_
    rw [up_s]
    refine sw_icmp_ge (pc' := 22) (tgt := 46) rfl dX5_goAt_19 (by decide +kernel) (fun c19 => ?_) (fun c19 => ?_)
    · refine sw_aload_n (pc' := 47) rfl dX5_goAt_46 rfl ?_
      refine sw_getf (ci := 6) (k := 5) (pc' := 50) rfl dX5_goAt_47 (by decide +kernel) w_1118 ((hF 135 (by omega) (by omega)).trans hM.ob) rfl ?_
      refine sw_iload_n (pc' := 51) rfl dX5_goAt_50 rfl ?_
      refine sw_dup2 (pc' := 52) rfl dX5_goAt_51 rfl rfl ?_
      refine sw_iald (j := k) (pc' := 53) rfl dX5_goAt_52 ((hF 149 (by omega) (by omega)).trans hM.sf) rfl (by omega) (by decide +kernel) ?_
      refine sw_iconst (pc' := 54) (v := 1) rfl dX5_goAt_53 (by decide +kernel) ?_
      refine sw_iadd (pc' := 55) rfl dX5_goAt_54 ?_
      refine sw_iast (j := k) (pc' := 56) rfl dX5_goAt_55 ((hF 149 (by omega) (by omega)).trans hM.sf) (by decide +kernel) rfl (by omega) (by decide +kernel) ?_
      refine sw_nm (fun g1 eg1 => ?_)
      have zg1 := (congrFun eg1 149).trans (up_s (h := g) (i := 149))
      refine sw_ret (v := none) ⟨dX5_goAt_56, rfl⟩ ?_
      have fin : ∀ i, i ≠ 137 + k → i ≠ 148 → i ≠ 149 → i ≠ 156 → g1 i = h i := fun i h1 h2 h3 _ => (congrFun eg1 i).trans ((up_n (by omega)).trans (hF i h1 h2))
      rw [lf1, he, Nat.add_sub_cancel]
      exact ⟨rfl, rfl, ⟨_, _, hM.shU hk (((congrFun eg1 (137 + k)).trans (up_n (by omega))).trans hr) (((congrFun eg1 148).trans (up_n (by omega))).trans hs) zg1 (by rw [up_id]; exact (((congrFun eg1 156).trans (up_n (by omega))).trans ((hF 156 (by omega) (by omega)).trans hM.tu))) fin, hA.shU (liN_at (fun j hj => hA.1 k hk j (by omega)))⟩, FrM.of1 (fun i q => fin i (by omega) (by omega) (by omega) (by omega))⟩
    · exact absurd (Int32.le_refl _) c19
  | succ m ih =>
    intro i g hi hj hr hs hF
    refine sw_iload_n (pc' := 13) rfl dX5_goAt_12 rfl ?_
    refine sw_aload_n (pc' := 14) rfl dX5_goAt_13 rfl ?_
    refine sw_getf (ci := 6) (k := 4) (pc' := 17) rfl dX5_goAt_14 (by decide +kernel) w_1117 ((hF 135 (by omega) (by omega)).trans hM.ob) rfl ?_
    refine sw_iload_n (pc' := 18) rfl dX5_goAt_17 rfl ?_
    refine sw_iald (j := k) (pc' := 19) rfl dX5_goAt_18 hs rfl (by omega) (by decide +kernel) ?_
    rw [up_s]
    refine sw_icmp_ge (pc' := 22) (tgt := 46) rfl dX5_goAt_19 (by decide +kernel) (fun c19 => ?_) (fun c19 => ?_)
    · exact absurd c19 (nI_ge (by omega) (by omega))
    · refine sw_aload_n (pc' := 23) rfl dX5_goAt_22 rfl ?_
      refine sw_getf (ci := 6) (k := 3) (pc' := 26) rfl dX5_goAt_23 (by decide +kernel) w_1116 ((hF 135 (by omega) (by omega)).trans hM.ob) rfl ?_
      refine sw_iload_n (pc' := 27) rfl dX5_goAt_26 rfl ?_
      refine sw_aald (j := k) (pc' := 28) rfl dX5_goAt_27 ((hF 136 (by omega) (by omega)).trans hG0) (by decide +kernel) (by decide +kernel) rfl (by omega) (by decide +kernel) (eG0 k (by omega)) ?_
      refine sw_iload_n (pc' := 29) rfl dX5_goAt_28 rfl ?_
      refine sw_aload_n (pc' := 30) rfl dX5_goAt_29 rfl ?_
      refine sw_getf (ci := 6) (k := 3) (pc' := 33) rfl dX5_goAt_30 (by decide +kernel) w_1116 ((hF 135 (by omega) (by omega)).trans hM.ob) rfl ?_
      refine sw_iload_n (pc' := 34) rfl dX5_goAt_33 rfl ?_
      refine sw_aald (j := k) (pc' := 35) rfl dX5_goAt_34 ((hF 136 (by omega) (by omega)).trans hG0) (by decide +kernel) (by decide +kernel) rfl (by omega) (by decide +kernel) (eG0 k (by omega)) ?_
      refine sw_iload_n (pc' := 36) rfl dX5_goAt_35 rfl ?_
      refine sw_iconst (pc' := 37) (v := 1) rfl dX5_goAt_36 (by decide +kernel) ?_
      refine sw_iadd (pc' := 38) rfl dX5_goAt_37 ?_
      rw [show (nI i) + 1 = nI (i + 1) from nI_add _ _]
      refine sw_iald (j := i + 1) (pc' := 39) rfl dX5_goAt_38 hr rfl (by omega) (by decide +kernel) ?_
      refine sw_iast (j := i) (pc' := 40) rfl dX5_goAt_39 hr (by show 100 ≤ _; omega) rfl (by omega) (by decide +kernel) ?_
      refine sw_nm (fun g2 eg2 => ?_)
      have zg2 := (congrFun eg2 (137 + k)).trans (up_s (h := g) (i := (137 + k)))
      refine sw_iinc (pc' := 43) (lv' := [(3, _), (0, _), (1, _), (2, _)]) (v := nI (i + 1)) rfl dX5_goAt_40 rfl (nI_1 i) (by decide +kernel) rfl ?_
      refine sw_goto (tgt := 12) dX5_goAt_43 (by decide +kernel) ?_
      exact ih (i + 1) g2 (by omega) (by omega) ((liN_s hj) ▸ zg2) (((congrFun eg2 148).trans (up_n (by omega))).trans hs) (fun i h1 h2 => (congrFun eg2 i).trans ((up_n h1).trans (hF i h1 h2)))
theorem q_goAt {h : AH} {d bc bs n : Nat} {ρ : Nat → Nat → Int32} {τ : Nat → Int32} {σ : CS} {th : Int32} {p : Nat} (hM : MM h ρ τ σ th) (hA : AG ρ τ σ) {k : Nat} (hk : k < 11) (hc : σ.2.1 k ≤ 12) (hp : p < σ.2.1 k) : SM SR0 MX5_goAt d bc bs [.ref 135, .int (nI k), .int (nI p)] h n (RP h n none (lf1 σ k p) th) := by
  obtain ⟨G0, hG0, eG0⟩ := hM.out
  refine sm_of pn_OverwalksModel rfl (Nat.le_of_ble_eq_true rfl) ?_
  refine sw_aload_n (pc' := 1) rfl dX5_goAt_0 rfl ?_
  refine sw_getf (ci := 6) (k := 4) (pc' := 4) rfl dX5_goAt_1 (by decide +kernel) w_1117 hM.ob rfl ?_
  refine sw_iload_n (pc' := 5) rfl dX5_goAt_4 rfl ?_
  refine sw_dup2 (pc' := 6) rfl dX5_goAt_5 rfl rfl ?_
  refine sw_iald (j := k) (pc' := 7) rfl dX5_goAt_6 hM.sz rfl (by omega) (by decide +kernel) ?_
  refine sw_iconst (pc' := 8) (v := 1) rfl dX5_goAt_7 (by decide +kernel) ?_
  refine sw_isub (pc' := 9) rfl dX5_goAt_8 ?_
  refine sw_iast (j := k) (pc' := 10) rfl dX5_goAt_9 hM.sz (by decide +kernel) rfl (by omega) (by decide +kernel) ?_
  refine sw_nm (fun g3 eg3 => ?_)
  have zg3 := (congrFun eg3 148).trans (up_s (h := h) (i := 148))
  refine sw_iload_n (pc' := 11) rfl dX5_goAt_10 rfl ?_
  refine sw_istore_n (pc' := 12) (lv' := [(3, _), (0, _), (1, _), (2, _)]) rfl dX5_goAt_11 (by decide +kernel) rfl ?_
  obtain ⟨e, he⟩ : ∃ e, σ.2.1 k = e + 1 := ⟨σ.2.1 k - 1, by omega⟩
  have zs := zg3
  rw [he, nI_pred] at zs
  exact ql_goAt hM hA hk he (by omega) (e - p) p g3 (by omega) (Nat.le_refl _) (by rw [liN_j]; exact (((congrFun eg3 (137 + k)).trans (up_n (by omega))).trans (hM.row (k := k) (by omega)))) zs (fun i h1 h2 => (congrFun eg3 i).trans ((up_n h2).trans (rfl)))
theorem q_empty {h : AH} {d bc bs n : Nat} {ρ : Nat → Nat → Int32} {τ : Nat → Int32} {σ : CS} {th : Int32} (hM : MM h ρ τ σ th) (hA : AG ρ τ σ) {k : Nat} (hk : k < 11) (hc : σ.2.1 k ≤ 12) : SM SR0 MX5_empty d bc bs [.ref 135, .int (nI k)] h n (RP h n none (la1 σ k) th) := by
  obtain ⟨G0, hG0, eG0⟩ := hM.out
  refine sm_of pn_OverwalksModel rfl (Nat.le_of_ble_eq_true rfl) ?_
  refine sw_aload_n (pc' := 1) rfl dX5_empty_0 rfl ?_
  refine sw_getf (ci := 6) (k := 4) (pc' := 4) rfl dX5_empty_1 (by decide +kernel) w_1117 hM.ob rfl ?_
  refine sw_iload_n (pc' := 5) rfl dX5_empty_4 rfl ?_
  refine sw_iald (j := k) (pc' := 6) rfl dX5_empty_5 hM.sz rfl (by omega) (by decide +kernel) ?_
  refine sw_if_le (pc' := 9) (tgt := 19) rfl dX5_empty_6 (by decide +kernel) (fun c6 => ?_) (fun c6 => ?_)
  · refine sw_aload_n (pc' := 20) rfl dX5_empty_19 rfl ?_
    refine sw_getf (ci := 6) (k := 4) (pc' := 23) rfl dX5_empty_20 (by decide +kernel) w_1117 hM.ob rfl ?_
    refine sw_iload_n (pc' := 24) rfl dX5_empty_23 rfl ?_
    refine sw_iconst (pc' := 25) (v := 0) rfl dX5_empty_24 (by decide +kernel) ?_
    refine sw_iast (j := k) (pc' := 26) rfl dX5_empty_25 hM.sz (by decide +kernel) rfl (by omega) (by decide +kernel) ?_
    refine sw_nm (fun g1 eg1 => ?_)
    have zg1 := (congrFun eg1 148).trans (up_s (h := h) (i := 148))
    refine sw_ret (v := none) ⟨dX5_empty_26, rfl⟩ ?_
    have ec : σ.2.1 k = 0 := by have := fun q => (nI_gt0 (m := σ.2.1 k) (by omega)).mpr q; exact Nat.eq_zero_of_not_pos (fun q => absurd (Int32.not_le.mpr (this q)) (fun g => g c6))
    have fin : ∀ i, i ≠ 137 + k → i ≠ 148 → i ≠ 149 → i ≠ 156 → g1 i = h i := fun i h1 h2 h3 _ => (congrFun eg1 i).trans ((up_n (by omega)).trans (rfl))
    exact ⟨rfl, rfl, ⟨_, _, hM.shU hk (c := 0) (((congrFun eg1 (137 + k)).trans (up_n (by omega))).trans (hM.row (k := k) (by omega))) zg1 (by rw [if_pos ec, up_id]; exact (((congrFun eg1 149).trans (up_n (by omega))).trans hM.sf)) (by rw [up_id]; exact (((congrFun eg1 156).trans (up_n (by omega))).trans hM.tu)) fin, hA.shU (fun j hj => absurd hj (Nat.not_lt_zero _))⟩, FrM.of1 (fun i q => fin i (by omega) (by omega) (by omega) (by omega))⟩
  · refine sw_aload_n (pc' := 10) rfl dX5_empty_9 rfl ?_
    refine sw_getf (ci := 6) (k := 5) (pc' := 13) rfl dX5_empty_10 (by decide +kernel) w_1118 hM.ob rfl ?_
    refine sw_iload_n (pc' := 14) rfl dX5_empty_13 rfl ?_
    refine sw_dup2 (pc' := 15) rfl dX5_empty_14 rfl rfl ?_
    refine sw_iald (j := k) (pc' := 16) rfl dX5_empty_15 hM.sf rfl (by omega) (by decide +kernel) ?_
    refine sw_iconst (pc' := 17) (v := 1) rfl dX5_empty_16 (by decide +kernel) ?_
    refine sw_iadd (pc' := 18) rfl dX5_empty_17 ?_
    refine sw_iast (j := k) (pc' := 19) rfl dX5_empty_18 hM.sf (by decide +kernel) rfl (by omega) (by decide +kernel) ?_
    refine sw_nm (fun g2 eg2 => ?_)
    have zg2 := (congrFun eg2 149).trans (up_s (h := h) (i := 149))
    refine sw_aload_n (pc' := 20) rfl dX5_empty_19 rfl ?_
    refine sw_getf (ci := 6) (k := 4) (pc' := 23) rfl dX5_empty_20 (by decide +kernel) w_1117 (((congrFun eg2 135).trans (up_n (by omega))).trans hM.ob) rfl ?_
    refine sw_iload_n (pc' := 24) rfl dX5_empty_23 rfl ?_
    refine sw_iconst (pc' := 25) (v := 0) rfl dX5_empty_24 (by decide +kernel) ?_
    refine sw_iast (j := k) (pc' := 26) rfl dX5_empty_25 (((congrFun eg2 148).trans (up_n (by omega))).trans hM.sz) (by decide +kernel) rfl (by omega) (by decide +kernel) ?_
    refine sw_nm (fun g3 eg3 => ?_)
    have zg3 := (congrFun eg3 148).trans (up_s (h := g2) (i := 148))
    refine sw_ret (v := none) ⟨dX5_empty_26, rfl⟩ ?_
    have ec : ¬ σ.2.1 k = 0 := fun e => c6 (by rw [e]; decide)
    have fin : ∀ i, i ≠ 137 + k → i ≠ 148 → i ≠ 149 → i ≠ 156 → g3 i = h i := fun i h1 h2 h3 _ => (congrFun eg3 i).trans ((up_n (by omega)).trans ((congrFun eg2 i).trans ((up_n (by omega)).trans (rfl))))
    exact ⟨rfl, rfl, ⟨_, _, hM.shU hk (c := 0) (((congrFun eg3 (137 + k)).trans (up_n (by omega))).trans (((congrFun eg2 (137 + k)).trans (up_n (by omega))).trans (hM.row (k := k) (by omega)))) zg3 (by rw [if_neg ec]; exact (((congrFun eg3 149).trans (up_n (by omega))).trans zg2)) (by rw [up_id]; exact (((congrFun eg3 156).trans (up_n (by omega))).trans (((congrFun eg2 156).trans (up_n (by omega))).trans hM.tu))) fin, hA.shU (fun j hj => absurd hj (Nat.not_lt_zero _))⟩, FrM.of1 (fun i q => fin i (by omega) (by omega) (by omega) (by omega))⟩
theorem q_hasNothing {h : AH} {d bc bs n : Nat} {ρ : Nat → Nat → Int32} {τ : Nat → Int32} {σ : CS} {th : Int32} (hM : MM h ρ τ σ th) (hA : AG ρ τ σ) {k : Nat} (hk : k < 11) (hc : σ.2.1 k ≤ 12) (hd : 2 ≤ d) : SM SR0 MX5_hasNothing d bc bs [.ref 135, .int (nI k)] h n (Det (rI (bI (fpN (σ.1 k) 100 0 (σ.2.1 k)).isSome)) h n) := by
  obtain ⟨G0, hG0, eG0⟩ := hM.out
  refine sm_of pn_OverwalksModel rfl (Nat.le_of_ble_eq_true rfl) ?_
  refine sw_aload_n (pc' := 1) rfl dX5_hasNothing_0 rfl ?_
  refine sw_iload_n (pc' := 2) rfl dX5_hasNothing_1 rfl ?_
  refine sw_bipush (pc' := 4) (v := 100) rfl dX5_hasNothing_2 (by decide +kernel) ?_
  refine sw_V (M' := MX5_count) (d' := d - 1) (bc' := 0) (bs' := 0) (ci := 6) (as := [_, _]) dX5_hasNothing_4 w_1192 ok_X5_count (q_count hM hA hk hc (by omega)) hM.ob rfl (by omega) (Nat.le_of_ble_eq_true rfl) (Nat.zero_le _) (Nat.zero_le _) (fun E h' n' _ z => det_x z) (det_k ?_)
  refine sw_if_le (pc' := 10) (tgt := 14) rfl dX5_hasNothing_7 (by decide +kernel) (fun c7 => ?_) (fun c7 => ?_)
  · refine sw_iconst (pc' := 15) (v := 0) rfl dX5_hasNothing_14 (by decide +kernel) ?_
    refine sw_ret (v := some _) ⟨dX5_hasNothing_15, _, rfl, rfl⟩ ?_
    have hl := coN_le (f := σ.1 k) (x := 100) (m := σ.2.1 k) (j := 0)
    rw [← coN_s, decide_eq_false (fun g => absurd ((nI_gt0 (by omega)).mpr g) (Int32.not_lt.mpr c7))]
    exact ⟨rfl, rfl, rfl⟩
  · refine sw_iconst (pc' := 11) (v := 1) rfl dX5_hasNothing_10 (by decide +kernel) ?_
    refine sw_goto (tgt := 15) dX5_hasNothing_11 (by decide +kernel) ?_
    refine sw_ret (v := some _) ⟨dX5_hasNothing_15, _, rfl, rfl⟩ ?_
    have hl := coN_le (f := σ.1 k) (x := 100) (m := σ.2.1 k) (j := 0)
    rw [← coN_s, decide_eq_true ((nI_gt0 (by omega)).mp (Int32.not_le.mp c7))]
    exact ⟨rfl, rfl, rfl⟩
/-- no such place of row a -/
def npB (σ : CS) (a p : Int32) : Bool := nrB a || !inB p 0 (nI (σ.2.1 a.toNatClampNeg) - 1)
theorem q_isNoPlace {h : AH} {d bc bs n : Nat} {ρ : Nat → Nat → Int32} {τ : Nat → Int32} {σ : CS} {th : Int32} {a p : Int32} (hM : MM h ρ τ σ th) (hd : 3 ≤ d) : SM SR0 MX5_isNoPlace d bc bs [.ref 135, .int a, .int p] h n (Det (rI (bI (npB σ a p))) h n) := by
  obtain ⟨G0, hG0, eG0⟩ := hM.out
  refine sm_of pn_OverwalksModel rfl (Nat.le_of_ble_eq_true rfl) ?_
  refine sw_iload_n (pc' := 1) rfl dX5_isNoPlace_0 rfl ?_
  refine sw_S (M' := MX5_isNoRow) (d' := d - 1) (bc' := 0) (bs' := 0) (as := [_]) dX5_isNoPlace_1 w_1267 ok_X5_isNoRow (q_isNoRow (by omega)) (by omega) (Nat.le_of_ble_eq_true rfl) (Nat.zero_le _) (Nat.zero_le _) (fun E h' n' _ z => det_x z) (det_k ?_)
  refine sw_if_ne (pc' := 7) (tgt := 23) rfl dX5_isNoPlace_4 (by decide +kernel) (fun c4 => ?_) (fun c4 => ?_)
  · refine sw_iconst (pc' := 24) (v := 1) rfl dX5_isNoPlace_23 (by decide +kernel) ?_
    refine sw_goto (tgt := 28) dX5_isNoPlace_24 (by decide +kernel) ?_
    refine sw_ret (v := some _) ⟨dX5_isNoPlace_28, _, rfl, rfl⟩ ?_
    exact ⟨by rw [npB, bI_1 c4]; rfl, rfl, rfl⟩
  · obtain ⟨k, hk, ea⟩ : ∃ k, k < 11 ∧ a = nI k := by
      rcases idxN 11 (by decide +kernel) a with q | q
      · have g := bI_0 c4
        have g2 : inB a 0 10 = false := no_x (N := 10) (by decide +kernel) q
        rw [nrB, g2] at g
        cases g
      · exact q
    have e5 : a.toNatClampNeg = k := by rw [ea, nI_clamp (by omega)]
    refine sw_iload_n (pc' := 8) rfl dX5_isNoPlace_7 rfl ?_
    refine sw_iconst (pc' := 9) (v := 0) rfl dX5_isNoPlace_8 (by decide +kernel) ?_
    refine sw_aload_n (pc' := 10) rfl dX5_isNoPlace_9 rfl ?_
    refine sw_getf (ci := 6) (k := 4) (pc' := 13) rfl dX5_isNoPlace_10 (by decide +kernel) w_1117 hM.ob rfl ?_
    refine sw_iload_n (pc' := 14) rfl dX5_isNoPlace_13 rfl ?_
    refine sw_iald (j := k) (pc' := 15) rfl dX5_isNoPlace_14 hM.sz ea (by omega) (by decide +kernel) ?_
    refine sw_iconst (pc' := 16) (v := 1) rfl dX5_isNoPlace_15 (by decide +kernel) ?_
    refine sw_isub (pc' := 17) rfl dX5_isNoPlace_16 ?_
    refine sw_S (M' := MX5_isIn) (d' := d - 1) (bc' := 0) (bs' := 0) (as := [_, _, _]) dX5_isNoPlace_17 w_1168 ok_X5_isIn (q_isIn) (by omega) (Nat.le_of_ble_eq_true rfl) (Nat.zero_le _) (Nat.zero_le _) (fun E h' n' _ z => det_x z) (det_k ?_)
    refine sw_if_ne (pc' := 23) (tgt := 27) rfl dX5_isNoPlace_20 (by decide +kernel) (fun c20 => ?_) (fun c20 => ?_)
    · refine sw_iconst (pc' := 28) (v := 0) rfl dX5_isNoPlace_27 (by decide +kernel) ?_
      refine sw_ret (v := some _) ⟨dX5_isNoPlace_28, _, rfl, rfl⟩ ?_
      exact ⟨by rw [npB, bI_0 c4, e5, bI_1 c20]; rfl, rfl, rfl⟩
    · refine sw_iconst (pc' := 24) (v := 1) rfl dX5_isNoPlace_23 (by decide +kernel) ?_
      refine sw_goto (tgt := 28) dX5_isNoPlace_24 (by decide +kernel) ?_
      refine sw_ret (v := some _) ⟨dX5_isNoPlace_28, _, rfl, rfl⟩ ?_
      exact ⟨by rw [npB, bI_0 c4, e5, bI_0 c20]; rfl, rfl, rfl⟩
