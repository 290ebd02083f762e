/-! the model's calls, go on -/
theorem kdT {k : Nat} (hk : k < 11) : kdO k = 5 → k = 6 ∨ k = 7 := by revert k; decide
theorem lv6 {σ : CS} {k p : Nat} (hI : Iv σ) (hk : k < 11) (hp : p < σ.2.1 k) : kdO k = 5 → (σ.2.1 6 ≤ 12 ∧ p < σ.2.1 6 ∧ σ.2.1 7 ≤ 12 ∧ p < σ.2.1 7) := by
  intro e
  have h6 := hI.1 6 (by decide +kernel)
  have h7 := hI.1 7 (by decide +kernel)
  have h67 := hI.2.1
  rcases kdT hk e with e1 | e1 <;> subst e1 <;> exact ⟨h6, by omega, h7, by omega⟩
theorem up_at {f g : Nat → Int32} {c p : Nat} {x : Int32} (h : ∀ j, j < c → g j = f j) : ∀ j, j < c → up g p x j = up f p x j := by
  intro j hj
  unfold up
  split
  · rfl
  · exact h j hj
theorem if_li {a : Int32} {σ : CS} {g : Nat → ARes × CS} (q : a < 8) : onLi a σ g = (xI, σ) := if_pos q
theorem onLi_z {a : Int32} {σ : CS} {g : Nat → ARes × CS} (q : ¬ a < 8) (q1 : a < 0 ∨ nI 11 ≤ a) : onLi a σ g = (xI, σ) := (if_neg q).trans (onSh_x q1)
theorem li_x {a : Int32} (q : ¬ a < 8) (q1 : a < 0 ∨ nI 11 ≤ a) : inB a 8 10 = false := by
  rcases q1 with g | g
  · exact absurd (Int32.lt_trans g (show (0 : Int32) < 8 by decide +kernel)) q
  · by_cases g2 : a < 0
    · exact absurd (Int32.lt_trans g2 (show (0 : Int32) < 8 by decide +kernel)) q
    · obtain ⟨j, hj, rfl⟩ := nI_of g2
      exact inB_f2 (nI_lt (a := 10) (by have := (nI_leI (a := 11) (by decide +kernel) hj).mp g; omega) hj)
theorem li_k {k : Nat} (q : ¬ nI k < 8) (hk : k < 11) : inB (nI k) 8 10 = true := inB_t (Int32.not_lt.mp q) ((nI_leI (b := 10) (by omega) (by decide +kernel)).mpr (by omega))
theorem rtI {a b c : Int32} (h : a = b) : a + c = b + c := by rw [h]
theorem sw_v {f g : Nat → Int32} {P O : Nat} : up (up f P (g O)) O (g P) P = g O := by
  unfold up
  by_cases e : P = O
  · rw [if_pos e, e]
  · rw [if_neg e, if_pos rfl]
theorem q_valueOf {h : AH} {d bc bs n : Nat} {σ : CS} {th : Int32} {x : Int32} (hR : RMo h σ th) (hI : Iv σ) (hn : 159 ≤ n) (hd : 8 ≤ d) (h1 : 1 ≤ bc) (h2 : 12 ≤ bs)  : SM SR0 MX5_valueOf d bc bs [.ref 135, .int x] h n (PM h n (tc sA sA) (opValueOf σ x)) := by
  obtain ⟨ρ, τ, hM, hA⟩ := hR
  obtain ⟨G0, hG0, eG0⟩ := hM.out
  refine sm_of pn_OverwalksModel rfl (Nat.le_of_ble_eq_true rfl) ?_
  rcases Classical.em (x < 0 ∨ 100 ≤ x) with qx | qx
  · refine sw_aload_n (pc' := 1) rfl dX5_valueOf_0 rfl ?_
    refine sw_iload_n (pc' := 2) rfl dX5_valueOf_1 rfl ?_
    refine sw_iconst (pc' := 3) (v := 0) rfl dX5_valueOf_2 (by decide +kernel) ?_
    refine sw_bipush (pc' := 5) (v := 99) rfl dX5_valueOf_3 (by decide +kernel) ?_
    refine sw_S (M' := MX5_isIn) (d' := d - 1) (bc' := 0) (bs' := 0) (as := [_, _, _]) dX5_valueOf_5 w_1168 ok_X5_isIn (q_isIn) (by omega) (Nat.le_of_ble_eq_true rfl) (Nat.zero_le _) (Nat.zero_le _) (fun E h' n' _ z => det_x z) (det_k ?_)
    rw [show inB x 0 99 = false from inB_99x qx]
    show SW _ _ _ _ _ _ _ (.int 0 :: _) _ _ _
    refine sw_if_ne (pc' := 11) (tgt := 15) rfl dX5_valueOf_8 (by decide +kernel) (fun c8 => ?_) (fun c8 => ?_)
    · exact absurd c8 (by decide +kernel)
    · refine sw_iconst (pc' := 12) (v := 1) rfl dX5_valueOf_11 (by decide +kernel) ?_
      refine sw_goto (tgt := 16) dX5_valueOf_12 (by decide +kernel) ?_
      refine sw_V (M' := MX5_isStopped__) (d' := d - 1) (bc' := 0) (bs' := 0) (ci := 6) (as := [_]) dX5_valueOf_16 w_1235 ok_X5_isStopped__ (q_isStopped1 (a := true) hM hA (by omega)) hM.ob rfl (by omega) (Nat.le_of_ble_eq_true rfl) (Nat.zero_le _) (Nat.zero_le _) (fun E h' n' _ z => rp_x z) (rp_k (fun p16 p16ρ p16τ p16M p16A p16F => ?_))
      obtain ⟨Gp16, hGp16, eGp16⟩ := p16M.out
      show SW _ _ _ _ _ _ _ (.int 1 :: _) _ _ _
      refine sw_if_eq (pc' := 22) (tgt := 24) rfl dX5_valueOf_19 (by decide +kernel) (fun c19 => ?_) (fun c19 => ?_)
      · exact absurd c19 (by decide +kernel)
      · refine sw_iconst (pc' := 23) (v := 0) rfl dX5_valueOf_22 (by decide +kernel) ?_
        refine sw_ret (v := some _) ⟨dX5_valueOf_23, _, rfl, rfl⟩ ?_
        rw [opValueOf, if_pos qx]
        exact pm_x tc_1 p16M p16A p16F (Nat.le_refl _)
  rcases e1 : fpN (σ.1 6) x 0 (σ.2.1 6) with _ | p
  · skip
    refine sw_aload_n (pc' := 1) rfl dX5_valueOf_0 rfl ?_
    refine sw_iload_n (pc' := 2) rfl dX5_valueOf_1 rfl ?_
    refine sw_iconst (pc' := 3) (v := 0) rfl dX5_valueOf_2 (by decide +kernel) ?_
    refine sw_bipush (pc' := 5) (v := 99) rfl dX5_valueOf_3 (by decide +kernel) ?_
    refine sw_S (M' := MX5_isIn) (d' := d - 1) (bc' := 0) (bs' := 0) (as := [_, _, _]) dX5_valueOf_5 w_1168 ok_X5_isIn (q_isIn) (by omega) (Nat.le_of_ble_eq_true rfl) (Nat.zero_le _) (Nat.zero_le _) (fun E h' n' _ z => det_x z) (det_k ?_)
    rw [show inB x 0 99 = true from inB_99 qx]
    show SW _ _ _ _ _ _ _ (.int 1 :: _) _ _ _
    refine sw_if_ne (pc' := 11) (tgt := 15) rfl dX5_valueOf_8 (by decide +kernel) (fun c8 => ?_) (fun c8 => ?_)
    · refine sw_iconst (pc' := 16) (v := 0) rfl dX5_valueOf_15 (by decide +kernel) ?_
      refine sw_V (M' := MX5_isStopped__) (d' := d - 1) (bc' := 0) (bs' := 0) (ci := 6) (as := [_]) dX5_valueOf_16 w_1235 ok_X5_isStopped__ (q_isStopped1 (a := false) hM hA (by omega)) hM.ob rfl (by omega) (Nat.le_of_ble_eq_true rfl) (Nat.zero_le _) (Nat.zero_le _) (fun E h' n' _ z => rp_x z) (rp_k (fun p16 p16ρ p16τ p16M p16A p16F => ?_))
      obtain ⟨Gp16, hGp16, eGp16⟩ := p16M.out
      show SW _ _ _ _ _ _ _ (.int 0 :: _) _ _ _
      refine sw_if_eq (pc' := 22) (tgt := 24) rfl dX5_valueOf_19 (by decide +kernel) (fun c19 => ?_) (fun c19 => ?_)
      · refine sw_aload_n (pc' := 25) rfl dX5_valueOf_24 rfl ?_
        refine sw_bipush (pc' := 27) (v := 6) rfl dX5_valueOf_25 (by decide +kernel) ?_
        refine sw_iload_n (pc' := 28) rfl dX5_valueOf_27 rfl ?_
        refine sw_V (M' := MX5_firstPlace) (d' := d - 1) (bc' := 0) (bs' := 0) (ci := 6) (as := [_, _]) dX5_valueOf_28 w_1219 ok_X5_firstPlace (q_firstPlace p16M p16A (k := 6) (by omega) (hI.1 6 (by omega))) p16M.ob rfl (by omega) (Nat.le_of_ble_eq_true rfl) (Nat.zero_le _) (Nat.zero_le _) (fun E h' n' _ z => det_x z) (det_k ?_)
        rw [e1]
        show SW _ _ _ _ _ _ _ (.int (-1) :: _) _ _ _
        refine sw_istore_n (pc' := 32) (lv' := [(2, _), (0, _), (1, _)]) rfl dX5_valueOf_31 (by decide +kernel) rfl ?_
        refine sw_iload_n (pc' := 33) rfl dX5_valueOf_32 rfl ?_
        refine sw_iconst (pc' := 34) (v := (-1)) rfl dX5_valueOf_33 (by decide +kernel) ?_
        refine sw_icmp_ne (pc' := 37) (tgt := 41) rfl dX5_valueOf_34 (by decide +kernel) (fun c34 => ?_) (fun c34 => ?_)
        · exact absurd c34 (by decide +kernel)
        · refine sw_iconst (pc' := 38) (v := (-1)) rfl dX5_valueOf_37 (by decide +kernel) ?_
          refine sw_goto (tgt := 50) dX5_valueOf_38 (by decide +kernel) ?_
          refine sw_ret (v := some _) ⟨dX5_valueOf_50, _, rfl, rfl⟩ ?_
          rw [opValueOf, if_neg qx, e1]
          exact pm_k p16M p16A p16F (Nat.le_refl _)
      · exact absurd c19 (by decide +kernel)
    · exact absurd c8 (by decide +kernel)
  · have hp := fp_i e1
    have h67 := hI.2.1
    refine sw_aload_n (pc' := 1) rfl dX5_valueOf_0 rfl ?_
    refine sw_iload_n (pc' := 2) rfl dX5_valueOf_1 rfl ?_
    refine sw_iconst (pc' := 3) (v := 0) rfl dX5_valueOf_2 (by decide +kernel) ?_
    refine sw_bipush (pc' := 5) (v := 99) rfl dX5_valueOf_3 (by decide +kernel) ?_
    refine sw_S (M' := MX5_isIn) (d' := d - 1) (bc' := 0) (bs' := 0) (as := [_, _, _]) dX5_valueOf_5 w_1168 ok_X5_isIn (q_isIn) (by omega) (Nat.le_of_ble_eq_true rfl) (Nat.zero_le _) (Nat.zero_le _) (fun E h' n' _ z => det_x z) (det_k ?_)
    rw [show inB x 0 99 = true from inB_99 qx]
    show SW _ _ _ _ _ _ _ (.int 1 :: _) _ _ _
    refine sw_if_ne (pc' := 11) (tgt := 15) rfl dX5_valueOf_8 (by decide +kernel) (fun c8 => ?_) (fun c8 => ?_)
    · refine sw_iconst (pc' := 16) (v := 0) rfl dX5_valueOf_15 (by decide +kernel) ?_
      refine sw_V (M' := MX5_isStopped__) (d' := d - 1) (bc' := 0) (bs' := 0) (ci := 6) (as := [_]) dX5_valueOf_16 w_1235 ok_X5_isStopped__ (q_isStopped1 (a := false) hM hA (by omega)) hM.ob rfl (by omega) (Nat.le_of_ble_eq_true rfl) (Nat.zero_le _) (Nat.zero_le _) (fun E h' n' _ z => rp_x z) (rp_k (fun p16 p16ρ p16τ p16M p16A p16F => ?_))
      obtain ⟨Gp16, hGp16, eGp16⟩ := p16M.out
      show SW _ _ _ _ _ _ _ (.int 0 :: _) _ _ _
      refine sw_if_eq (pc' := 22) (tgt := 24) rfl dX5_valueOf_19 (by decide +kernel) (fun c19 => ?_) (fun c19 => ?_)
      · refine sw_aload_n (pc' := 25) rfl dX5_valueOf_24 rfl ?_
        refine sw_bipush (pc' := 27) (v := 6) rfl dX5_valueOf_25 (by decide +kernel) ?_
        refine sw_iload_n (pc' := 28) rfl dX5_valueOf_27 rfl ?_
        refine sw_V (M' := MX5_firstPlace) (d' := d - 1) (bc' := 0) (bs' := 0) (ci := 6) (as := [_, _]) dX5_valueOf_28 w_1219 ok_X5_firstPlace (q_firstPlace p16M p16A (k := 6) (by omega) (hI.1 6 (by omega))) p16M.ob rfl (by omega) (Nat.le_of_ble_eq_true rfl) (Nat.zero_le _) (Nat.zero_le _) (fun E h' n' _ z => det_x z) (det_k ?_)
        rw [e1]
        show SW _ _ _ _ _ _ _ (.int (nI p) :: _) _ _ _
        refine sw_istore_n (pc' := 32) (lv' := [(2, _), (0, _), (1, _)]) rfl dX5_valueOf_31 (by decide +kernel) rfl ?_
        refine sw_iload_n (pc' := 33) rfl dX5_valueOf_32 rfl ?_
        refine sw_iconst (pc' := 34) (v := (-1)) rfl dX5_valueOf_33 (by decide +kernel) ?_
        refine sw_icmp_ne (pc' := 37) (tgt := 41) rfl dX5_valueOf_34 (by decide +kernel) (fun c34 => ?_) (fun c34 => ?_)
        · refine sw_aload_n (pc' := 42) rfl dX5_valueOf_41 rfl ?_
          refine sw_getf (ci := 6) (k := 3) (pc' := 45) rfl dX5_valueOf_42 (by decide +kernel) w_1116 p16M.ob rfl ?_
          refine sw_bipush (pc' := 47) (v := 7) rfl dX5_valueOf_45 (by decide +kernel) ?_
          refine sw_aald (j := 7) (pc' := 48) rfl dX5_valueOf_47 hGp16 (by decide +kernel) (by decide +kernel) rfl (by omega) (by decide +kernel) (eGp16 7 (by omega)) ?_
          refine sw_iload_n (pc' := 49) rfl dX5_valueOf_48 rfl ?_
          refine sw_iald (j := p) (pc' := 50) rfl dX5_valueOf_49 (p16M.row (k := 7) (by omega)) rfl (by have := hI.1 6 (by decide +kernel); omega) (by decide +kernel) ?_
          rw [p16A.1 7 (by omega) p (by omega)]
          refine sw_ret (v := some _) ⟨dX5_valueOf_50, _, rfl, rfl⟩ ?_
          rw [opValueOf, if_neg qx, e1]
          show PM _ _ _ (rI (taI (σ.1 7) (σ.2.1 7) (nI p)), σ) _ _ _
          rw [taI_in (by omega) (hI.1 7 (by decide +kernel))]
          exact pm_k p16M p16A p16F (Nat.le_refl _)
        · exact absurd c34 (nI_ne1 (by have := hI.1 6 (by decide +kernel); have := hI.1 7 (by decide +kernel); omega))
      · exact absurd c19 (by decide +kernel)
    · exact absurd c8 (by decide +kernel)
theorem q_take {h : AH} {d bc bs n : Nat} {σ : CS} {th : Int32} {a x : Int32} (hR : RMo h σ th) (hI : Iv σ) (hn : 159 ≤ n) (hd : 8 ≤ d) (h1 : 1 ≤ bc) (h2 : 12 ≤ bs)  : SM SR0 MX5_take d bc bs [.ref 135, .int a, .int x] h n (PM h n (tc sI sA) (opTake σ a x)) := by
  obtain ⟨ρ, τ, hM, hA⟩ := hR
  obtain ⟨G0, hG0, eG0⟩ := hM.out
  refine sm_of pn_OverwalksModel rfl (Nat.le_of_ble_eq_true rfl) ?_
  rcases idxN 11 (by decide +kernel) a with qk1 | ⟨k, hk, rfl⟩
  · refine sw_aload_n (pc' := 1) rfl dX5_take_0 rfl ?_
    refine sw_iload_n (pc' := 2) rfl dX5_take_1 rfl ?_
    refine sw_S (M' := MX5_isNone) (d' := d - 1) (bc' := 0) (bs' := 0) (as := [_]) dX5_take_2 w_1165 ok_X5_isNone (q_isNone (by omega)) (by omega) (Nat.le_of_ble_eq_true rfl) (Nat.zero_le _) (Nat.zero_le _) (fun E h' n' _ z => det_x z) (det_k ?_)
    rw [show inB a 0 10 = false from no_x (N := 10) (by decide +kernel) qk1]
    show SW _ _ _ _ _ _ _ (.int 1 :: _) _ _ _
    refine sw_iload_n (pc' := 6) rfl dX5_take_5 rfl ?_
    refine sw_S (M' := MX5_isNoThing) (d' := d - 1) (bc' := 0) (bs' := 0) (as := [_]) dX5_take_6 w_1171 ok_X5_isNoThing (q_isNoThing (by omega)) (by omega) (Nat.le_of_ble_eq_true rfl) (Nat.zero_le _) (Nat.zero_le _) (fun E h' n' _ z => det_x z) (det_k ?_)
    refine sw_V (M' := MX5_isStopped_) (d' := d - 1) (bc' := 0) (bs' := 0) (ci := 6) (as := [_, _]) dX5_take_9 w_1215 ok_X5_isStopped_ (q_isStopped2 (a := true) (b := (!inB x 0 100)) hM hA (by omega)) hM.ob rfl (by omega) (Nat.le_of_ble_eq_true rfl) (Nat.zero_le _) (Nat.zero_le _) (fun E h' n' _ z => rp_x z) (rp_k (fun p9 p9ρ p9τ p9M p9A p9F => ?_))
    obtain ⟨Gp9, hGp9, eGp9⟩ := p9M.out
    show SW _ _ _ _ _ _ _ (.int 1 :: _) _ _ _
    refine sw_if_eq (pc' := 15) (tgt := 17) rfl dX5_take_12 (by decide +kernel) (fun c12 => ?_) (fun c12 => ?_)
    · exact absurd c12 (by decide +kernel)
    · refine sw_iconst (pc' := 16) (v := 0) rfl dX5_take_15 (by decide +kernel) ?_
      refine sw_ret (v := some _) ⟨dX5_take_16, _, rfl, rfl⟩ ?_
      rw [opTake, onSh_x qk1]
      exact pm_x tc_1 p9M p9A p9F (Nat.le_refl _)
  have hck := hI.1 k hk
  rcases Classical.em (x < 0 ∨ 100 < x) with qx | qx
  · refine sw_aload_n (pc' := 1) rfl dX5_take_0 rfl ?_
    refine sw_iload_n (pc' := 2) rfl dX5_take_1 rfl ?_
    refine sw_S (M' := MX5_isNone) (d' := d - 1) (bc' := 0) (bs' := 0) (as := [_]) dX5_take_2 w_1165 ok_X5_isNone (q_isNone (by omega)) (by omega) (Nat.le_of_ble_eq_true rfl) (Nat.zero_le _) (Nat.zero_le _) (fun E h' n' _ z => det_x z) (det_k ?_)
    rw [show inB (nI k) 0 10 = true from inB_k (N := 10) (by omega) (by decide +kernel)]
    show SW _ _ _ _ _ _ _ (.int 0 :: _) _ _ _
    refine sw_iload_n (pc' := 6) rfl dX5_take_5 rfl ?_
    refine sw_S (M' := MX5_isNoThing) (d' := d - 1) (bc' := 0) (bs' := 0) (as := [_]) dX5_take_6 w_1171 ok_X5_isNoThing (q_isNoThing (by omega)) (by omega) (Nat.le_of_ble_eq_true rfl) (Nat.zero_le _) (Nat.zero_le _) (fun E h' n' _ z => det_x z) (det_k ?_)
    rw [show inB x 0 100 = false from inB_x qx]
    show SW _ _ _ _ _ _ _ (.int 1 :: _) _ _ _
    refine sw_V (M' := MX5_isStopped_) (d' := d - 1) (bc' := 0) (bs' := 0) (ci := 6) (as := [_, _]) dX5_take_9 w_1215 ok_X5_isStopped_ (q_isStopped2 (a := false) (b := true) hM hA (by omega)) hM.ob rfl (by omega) (Nat.le_of_ble_eq_true rfl) (Nat.zero_le _) (Nat.zero_le _) (fun E h' n' _ z => rp_x z) (rp_k (fun p9 p9ρ p9τ p9M p9A p9F => ?_))
    obtain ⟨Gp9, hGp9, eGp9⟩ := p9M.out
    show SW _ _ _ _ _ _ _ (.int 1 :: _) _ _ _
    refine sw_if_eq (pc' := 15) (tgt := 17) rfl dX5_take_12 (by decide +kernel) (fun c12 => ?_) (fun c12 => ?_)
    · exact absurd c12 (by decide +kernel)
    · refine sw_iconst (pc' := 16) (v := 0) rfl dX5_take_15 (by decide +kernel) ?_
      refine sw_ret (v := some _) ⟨dX5_take_16, _, rfl, rfl⟩ ?_
      rw [opTake, onSh_k hk, if_pos qx]
      exact pm_x (tc_2 sAI) p9M p9A p9F (Nat.le_refl _)
  rcases e1 : fpN (σ.1 k) x 0 (σ.2.1 k) with _ | p
  · skip
    refine sw_aload_n (pc' := 1) rfl dX5_take_0 rfl ?_
    refine sw_iload_n (pc' := 2) rfl dX5_take_1 rfl ?_
    refine sw_S (M' := MX5_isNone) (d' := d - 1) (bc' := 0) (bs' := 0) (as := [_]) dX5_take_2 w_1165 ok_X5_isNone (q_isNone (by omega)) (by omega) (Nat.le_of_ble_eq_true rfl) (Nat.zero_le _) (Nat.zero_le _) (fun E h' n' _ z => det_x z) (det_k ?_)
    rw [show inB (nI k) 0 10 = true from inB_k (N := 10) (by omega) (by decide +kernel)]
    show SW _ _ _ _ _ _ _ (.int 0 :: _) _ _ _
    refine sw_iload_n (pc' := 6) rfl dX5_take_5 rfl ?_
    refine sw_S (M' := MX5_isNoThing) (d' := d - 1) (bc' := 0) (bs' := 0) (as := [_]) dX5_take_6 w_1171 ok_X5_isNoThing (q_isNoThing (by omega)) (by omega) (Nat.le_of_ble_eq_true rfl) (Nat.zero_le _) (Nat.zero_le _) (fun E h' n' _ z => det_x z) (det_k ?_)
    rw [show inB x 0 100 = true from inB_n qx]
    show SW _ _ _ _ _ _ _ (.int 0 :: _) _ _ _
    refine sw_V (M' := MX5_isStopped_) (d' := d - 1) (bc' := 0) (bs' := 0) (ci := 6) (as := [_, _]) dX5_take_9 w_1215 ok_X5_isStopped_ (q_isStopped2 (a := false) (b := false) hM hA (by omega)) hM.ob rfl (by omega) (Nat.le_of_ble_eq_true rfl) (Nat.zero_le _) (Nat.zero_le _) (fun E h' n' _ z => rp_x z) (rp_k (fun p9 p9ρ p9τ p9M p9A p9F => ?_))
    obtain ⟨Gp9, hGp9, eGp9⟩ := p9M.out
    show SW _ _ _ _ _ _ _ (.int 0 :: _) _ _ _
    refine sw_if_eq (pc' := 15) (tgt := 17) rfl dX5_take_12 (by decide +kernel) (fun c12 => ?_) (fun c12 => ?_)
    · refine sw_iload_n (pc' := 18) rfl dX5_take_17 rfl ?_
      refine sw_bipush (pc' := 20) (v := 100) rfl dX5_take_18 (by decide +kernel) ?_
      refine sw_icmp_ne (pc' := 23) (tgt := 35) rfl dX5_take_20 (by decide +kernel) (fun c20 => ?_) (fun c20 => ?_)
      · refine sw_aload_n (pc' := 36) rfl dX5_take_35 rfl ?_
        refine sw_iload_n (pc' := 37) rfl dX5_take_36 rfl ?_
        refine sw_iload_n (pc' := 38) rfl dX5_take_37 rfl ?_
        refine sw_V (M' := MX5_firstPlace) (d' := d - 1) (bc' := 0) (bs' := 0) (ci := 6) (as := [_, _]) dX5_take_38 w_1219 ok_X5_firstPlace (q_firstPlace p9M p9A (k := k) (by omega) (hI.1 k (by omega))) p9M.ob rfl (by omega) (Nat.le_of_ble_eq_true rfl) (Nat.zero_le _) (Nat.zero_le _) (fun E h' n' _ z => det_x z) (det_k ?_)
        rw [e1]
        show SW _ _ _ _ _ _ _ (.int (-1) :: _) _ _ _
        refine sw_istore_n (pc' := 42) (lv' := [(3, _), (0, _), (1, _), (2, _)]) rfl dX5_take_41 (by decide +kernel) rfl ?_
        refine sw_iload_n (pc' := 43) rfl dX5_take_42 rfl ?_
        refine sw_iconst (pc' := 44) (v := (-1)) rfl dX5_take_43 (by decide +kernel) ?_
        refine sw_icmp_eq (pc' := 47) (tgt := 53) rfl dX5_take_44 (by decide +kernel) (fun c44 => ?_) (fun c44 => ?_)
        · refine sw_iload_n (pc' := 54) rfl dX5_take_53 rfl ?_
          refine sw_iconst (pc' := 55) (v := (-1)) rfl dX5_take_54 (by decide +kernel) ?_
          refine sw_icmp_eq (pc' := 58) (tgt := 62) rfl dX5_take_55 (by decide +kernel) (fun c55 => ?_) (fun c55 => ?_)
          · refine sw_iconst (pc' := 63) (v := 0) rfl dX5_take_62 (by decide +kernel) ?_
            refine sw_S (M' := MX5_one) (d' := d - 1) (bc' := 0) (bs' := 0) (as := [_]) dX5_take_63 w_1196 ok_X5_one (q_one (q := false)) (by omega) (Nat.le_of_ble_eq_true rfl) (Nat.zero_le _) (Nat.zero_le _) (fun E h' n' _ z => det_x z) (det_k ?_)
            show SW _ _ _ _ _ _ _ (.int 0 :: _) _ _ _
            refine sw_ret (v := some _) ⟨dX5_take_66, _, rfl, rfl⟩ ?_
            rw [opTake, onSh_k hk, if_neg qx, if_neg (fun e => Bool.noConfusion (e.symm.trans (tk_n c20))), e1]
            exact pm_k p9M p9A p9F (Nat.le_refl _)
          · exact absurd c55 (by decide +kernel)
        · exact absurd c44 (by decide +kernel)
      · refine sw_iload_n (pc' := 24) rfl dX5_take_23 rfl ?_
        refine sw_S (M' := MX5_takesNothing) (d' := d - 1) (bc' := 0) (bs' := 0) (as := [_]) dX5_take_24 w_1181 ok_X5_takesNothing (q_takesNothing (by omega)) (by omega) (Nat.le_of_ble_eq_true rfl) (Nat.zero_le _) (Nat.zero_le _) (fun E h' n' _ z => det_x z) (det_k ?_)
        rw [tn_k (k := k) (by omega)]
        refine sw_if_ne (pc' := 30) (tgt := 35) rfl dX5_take_27 (by decide +kernel) (fun c27 => ?_) (fun c27 => ?_)
        · refine sw_aload_n (pc' := 36) rfl dX5_take_35 rfl ?_
          refine sw_iload_n (pc' := 37) rfl dX5_take_36 rfl ?_
          refine sw_iload_n (pc' := 38) rfl dX5_take_37 rfl ?_
          refine sw_V (M' := MX5_firstPlace) (d' := d - 1) (bc' := 0) (bs' := 0) (ci := 6) (as := [_, _]) dX5_take_38 w_1219 ok_X5_firstPlace (q_firstPlace p9M p9A (k := k) (by omega) (hI.1 k (by omega))) p9M.ob rfl (by omega) (Nat.le_of_ble_eq_true rfl) (Nat.zero_le _) (Nat.zero_le _) (fun E h' n' _ z => det_x z) (det_k ?_)
          rw [e1]
          show SW _ _ _ _ _ _ _ (.int (-1) :: _) _ _ _
          refine sw_istore_n (pc' := 42) (lv' := [(3, _), (0, _), (1, _), (2, _)]) rfl dX5_take_41 (by decide +kernel) rfl ?_
          refine sw_iload_n (pc' := 43) rfl dX5_take_42 rfl ?_
          refine sw_iconst (pc' := 44) (v := (-1)) rfl dX5_take_43 (by decide +kernel) ?_
          refine sw_icmp_eq (pc' := 47) (tgt := 53) rfl dX5_take_44 (by decide +kernel) (fun c44 => ?_) (fun c44 => ?_)
          · refine sw_iload_n (pc' := 54) rfl dX5_take_53 rfl ?_
            refine sw_iconst (pc' := 55) (v := (-1)) rfl dX5_take_54 (by decide +kernel) ?_
            refine sw_icmp_eq (pc' := 58) (tgt := 62) rfl dX5_take_55 (by decide +kernel) (fun c55 => ?_) (fun c55 => ?_)
            · refine sw_iconst (pc' := 63) (v := 0) rfl dX5_take_62 (by decide +kernel) ?_
              refine sw_S (M' := MX5_one) (d' := d - 1) (bc' := 0) (bs' := 0) (as := [_]) dX5_take_63 w_1196 ok_X5_one (q_one (q := false)) (by omega) (Nat.le_of_ble_eq_true rfl) (Nat.zero_le _) (Nat.zero_le _) (fun E h' n' _ z => det_x z) (det_k ?_)
              show SW _ _ _ _ _ _ _ (.int 0 :: _) _ _ _
              refine sw_ret (v := some _) ⟨dX5_take_66, _, rfl, rfl⟩ ?_
              rw [opTake, onSh_k hk, if_neg qx, if_neg (fun e => Bool.noConfusion (e.symm.trans (tk_t (bI_1 c27)))), e1]
              exact pm_k p9M p9A p9F (Nat.le_refl _)
            · exact absurd c55 (by decide +kernel)
          · exact absurd c44 (by decide +kernel)
        · refine sw_aload_n (pc' := 31) rfl dX5_take_30 rfl ?_
          refine sw_V (M' := MX5_no) (d' := d - 1) (bc' := 0) (bs' := 0) (ci := 6) (as := []) dX5_take_31 w_1184 ok_X5_no (q_no p9M p9A) p9M.ob rfl (by omega) (Nat.le_of_ble_eq_true rfl) (Nat.zero_le _) (Nat.zero_le _) (fun E h' n' _ z => rp_x z) (rp_k (fun p31 p31ρ p31τ p31M p31A p31F => ?_))
          obtain ⟨Gp31, hGp31, eGp31⟩ := p31M.out
          refine sw_ret (v := some _) ⟨dX5_take_34, _, rfl, rfl⟩ ?_
          rw [opTake, onSh_k hk, if_neg qx, if_pos (tk_f c20 (bI_0 c27))]
          exact pm_k p31M p31A (p9F.tr p31F (Nat.le_refl _)) (Nat.le_refl _)
    · exact absurd c12 (by decide +kernel)
  · have hp := fp_i e1
    have h67 := hI.2.1
    refine sw_aload_n (pc' := 1) rfl dX5_take_0 rfl ?_
    refine sw_iload_n (pc' := 2) rfl dX5_take_1 rfl ?_
    refine sw_S (M' := MX5_isNone) (d' := d - 1) (bc' := 0) (bs' := 0) (as := [_]) dX5_take_2 w_1165 ok_X5_isNone (q_isNone (by omega)) (by omega) (Nat.le_of_ble_eq_true rfl) (Nat.zero_le _) (Nat.zero_le _) (fun E h' n' _ z => det_x z) (det_k ?_)
    rw [show inB (nI k) 0 10 = true from inB_k (N := 10) (by omega) (by decide +kernel)]
    show SW _ _ _ _ _ _ _ (.int 0 :: _) _ _ _
    refine sw_iload_n (pc' := 6) rfl dX5_take_5 rfl ?_
    refine sw_S (M' := MX5_isNoThing) (d' := d - 1) (bc' := 0) (bs' := 0) (as := [_]) dX5_take_6 w_1171 ok_X5_isNoThing (q_isNoThing (by omega)) (by omega) (Nat.le_of_ble_eq_true rfl) (Nat.zero_le _) (Nat.zero_le _) (fun E h' n' _ z => det_x z) (det_k ?_)
    rw [show inB x 0 100 = true from inB_n qx]
    show SW _ _ _ _ _ _ _ (.int 0 :: _) _ _ _
    refine sw_V (M' := MX5_isStopped_) (d' := d - 1) (bc' := 0) (bs' := 0) (ci := 6) (as := [_, _]) dX5_take_9 w_1215 ok_X5_isStopped_ (q_isStopped2 (a := false) (b := false) hM hA (by omega)) hM.ob rfl (by omega) (Nat.le_of_ble_eq_true rfl) (Nat.zero_le _) (Nat.zero_le _) (fun E h' n' _ z => rp_x z) (rp_k (fun p9 p9ρ p9τ p9M p9A p9F => ?_))
    obtain ⟨Gp9, hGp9, eGp9⟩ := p9M.out
    show SW _ _ _ _ _ _ _ (.int 0 :: _) _ _ _
    refine sw_if_eq (pc' := 15) (tgt := 17) rfl dX5_take_12 (by decide +kernel) (fun c12 => ?_) (fun c12 => ?_)
    · refine sw_iload_n (pc' := 18) rfl dX5_take_17 rfl ?_
      refine sw_bipush (pc' := 20) (v := 100) rfl dX5_take_18 (by decide +kernel) ?_
      refine sw_icmp_ne (pc' := 23) (tgt := 35) rfl dX5_take_20 (by decide +kernel) (fun c20 => ?_) (fun c20 => ?_)
      · refine sw_aload_n (pc' := 36) rfl dX5_take_35 rfl ?_
        refine sw_iload_n (pc' := 37) rfl dX5_take_36 rfl ?_
        refine sw_iload_n (pc' := 38) rfl dX5_take_37 rfl ?_
        refine sw_V (M' := MX5_firstPlace) (d' := d - 1) (bc' := 0) (bs' := 0) (ci := 6) (as := [_, _]) dX5_take_38 w_1219 ok_X5_firstPlace (q_firstPlace p9M p9A (k := k) (by omega) (hI.1 k (by omega))) p9M.ob rfl (by omega) (Nat.le_of_ble_eq_true rfl) (Nat.zero_le _) (Nat.zero_le _) (fun E h' n' _ z => det_x z) (det_k ?_)
        rw [e1]
        show SW _ _ _ _ _ _ _ (.int (nI p) :: _) _ _ _
        refine sw_istore_n (pc' := 42) (lv' := [(3, _), (0, _), (1, _), (2, _)]) rfl dX5_take_41 (by decide +kernel) rfl ?_
        refine sw_iload_n (pc' := 43) rfl dX5_take_42 rfl ?_
        refine sw_iconst (pc' := 44) (v := (-1)) rfl dX5_take_43 (by decide +kernel) ?_
        refine sw_icmp_eq (pc' := 47) (tgt := 53) rfl dX5_take_44 (by decide +kernel) (fun c44 => ?_) (fun c44 => ?_)
        · exact absurd c44 (nI_ne1 (by have := hI.1 6 (by decide +kernel); have := hI.1 7 (by decide +kernel); omega))
        · refine sw_aload_n (pc' := 48) rfl dX5_take_47 rfl ?_
          refine sw_iload_n (pc' := 49) rfl dX5_take_48 rfl ?_
          refine sw_iload_n (pc' := 50) rfl dX5_take_49 rfl ?_
          refine sw_V (M' := MX5_leave) (d' := d - 1) (bc' := 0) (bs' := 0) (ci := 6) (as := [_, _]) dX5_take_50 w_1223 ok_X5_leave (q_leave p9M p9A (k := k) (p := p) (by omega) (hI.1 k (by omega)) (fun _ => hp) (lv6 hI hk hp) (by omega)) p9M.ob rfl (by omega) (Nat.le_of_ble_eq_true rfl) (Nat.zero_le _) (Nat.zero_le _) (fun E h' n' _ z => rp_x z) (rp_k (fun p50 p50ρ p50τ p50M p50A p50F => ?_))
          obtain ⟨Gp50, hGp50, eGp50⟩ := p50M.out
          refine sw_iload_n (pc' := 54) rfl dX5_take_53 rfl ?_
          refine sw_iconst (pc' := 55) (v := (-1)) rfl dX5_take_54 (by decide +kernel) ?_
          refine sw_icmp_eq (pc' := 58) (tgt := 62) rfl dX5_take_55 (by decide +kernel) (fun c55 => ?_) (fun c55 => ?_)
          · exact absurd c55 (nI_ne1 (by have := hI.1 6 (by decide +kernel); have := hI.1 7 (by decide +kernel); omega))
          · refine sw_iconst (pc' := 59) (v := 1) rfl dX5_take_58 (by decide +kernel) ?_
            refine sw_goto (tgt := 63) dX5_take_59 (by decide +kernel) ?_
            refine sw_S (M' := MX5_one) (d' := d - 1) (bc' := 0) (bs' := 0) (as := [_]) dX5_take_63 w_1196 ok_X5_one (q_one (q := true)) (by omega) (Nat.le_of_ble_eq_true rfl) (Nat.zero_le _) (Nat.zero_le _) (fun E h' n' _ z => det_x z) (det_k ?_)
            show SW _ _ _ _ _ _ _ (.int 1 :: _) _ _ _
            refine sw_ret (v := some _) ⟨dX5_take_66, _, rfl, rfl⟩ ?_
            rw [opTake, onSh_k hk, if_neg qx, if_neg (fun e => Bool.noConfusion (e.symm.trans (tk_n c20))), e1]
            exact pm_k p50M p50A (p9F.tr p50F (Nat.le_refl _)) (Nat.le_refl _)
      · refine sw_iload_n (pc' := 24) rfl dX5_take_23 rfl ?_
        refine sw_S (M' := MX5_takesNothing) (d' := d - 1) (bc' := 0) (bs' := 0) (as := [_]) dX5_take_24 w_1181 ok_X5_takesNothing (q_takesNothing (by omega)) (by omega) (Nat.le_of_ble_eq_true rfl) (Nat.zero_le _) (Nat.zero_le _) (fun E h' n' _ z => det_x z) (det_k ?_)
        rw [tn_k (k := k) (by omega)]
        refine sw_if_ne (pc' := 30) (tgt := 35) rfl dX5_take_27 (by decide +kernel) (fun c27 => ?_) (fun c27 => ?_)
        · refine sw_aload_n (pc' := 36) rfl dX5_take_35 rfl ?_
          refine sw_iload_n (pc' := 37) rfl dX5_take_36 rfl ?_
          refine sw_iload_n (pc' := 38) rfl dX5_take_37 rfl ?_
          refine sw_V (M' := MX5_firstPlace) (d' := d - 1) (bc' := 0) (bs' := 0) (ci := 6) (as := [_, _]) dX5_take_38 w_1219 ok_X5_firstPlace (q_firstPlace p9M p9A (k := k) (by omega) (hI.1 k (by omega))) p9M.ob rfl (by omega) (Nat.le_of_ble_eq_true rfl) (Nat.zero_le _) (Nat.zero_le _) (fun E h' n' _ z => det_x z) (det_k ?_)
          rw [e1]
          show SW _ _ _ _ _ _ _ (.int (nI p) :: _) _ _ _
          refine sw_istore_n (pc' := 42) (lv' := [(3, _), (0, _), (1, _), (2, _)]) rfl dX5_take_41 (by decide +kernel) rfl ?_
          refine sw_iload_n (pc' := 43) rfl dX5_take_42 rfl ?_
          refine sw_iconst (pc' := 44) (v := (-1)) rfl dX5_take_43 (by decide +kernel) ?_
          refine sw_icmp_eq (pc' := 47) (tgt := 53) rfl dX5_take_44 (by decide +kernel) (fun c44 => ?_) (fun c44 => ?_)
          · exact absurd c44 (nI_ne1 (by have := hI.1 6 (by decide +kernel); have := hI.1 7 (by decide +kernel); omega))
          · refine sw_aload_n (pc' := 48) rfl dX5_take_47 rfl ?_
            refine sw_iload_n (pc' := 49) rfl dX5_take_48 rfl ?_
            refine sw_iload_n (pc' := 50) rfl dX5_take_49 rfl ?_
            refine sw_V (M' := MX5_leave) (d' := d - 1) (bc' := 0) (bs' := 0) (ci := 6) (as := [_, _]) dX5_take_50 w_1223 ok_X5_leave (q_leave p9M p9A (k := k) (p := p) (by omega) (hI.1 k (by omega)) (fun _ => hp) (lv6 hI hk hp) (by omega)) p9M.ob rfl (by omega) (Nat.le_of_ble_eq_true rfl) (Nat.zero_le _) (Nat.zero_le _) (fun E h' n' _ z => rp_x z) (rp_k (fun p50 p50ρ p50τ p50M p50A p50F => ?_))
            obtain ⟨Gp50, hGp50, eGp50⟩ := p50M.out
            refine sw_iload_n (pc' := 54) rfl dX5_take_53 rfl ?_
            refine sw_iconst (pc' := 55) (v := (-1)) rfl dX5_take_54 (by decide +kernel) ?_
            refine sw_icmp_eq (pc' := 58) (tgt := 62) rfl dX5_take_55 (by decide +kernel) (fun c55 => ?_) (fun c55 => ?_)
            · exact absurd c55 (nI_ne1 (by have := hI.1 6 (by decide +kernel); have := hI.1 7 (by decide +kernel); omega))
            · refine sw_iconst (pc' := 59) (v := 1) rfl dX5_take_58 (by decide +kernel) ?_
              refine sw_goto (tgt := 63) dX5_take_59 (by decide +kernel) ?_
              refine sw_S (M' := MX5_one) (d' := d - 1) (bc' := 0) (bs' := 0) (as := [_]) dX5_take_63 w_1196 ok_X5_one (q_one (q := true)) (by omega) (Nat.le_of_ble_eq_true rfl) (Nat.zero_le _) (Nat.zero_le _) (fun E h' n' _ z => det_x z) (det_k ?_)
              show SW _ _ _ _ _ _ _ (.int 1 :: _) _ _ _
              refine sw_ret (v := some _) ⟨dX5_take_66, _, rfl, rfl⟩ ?_
              rw [opTake, onSh_k hk, if_neg qx, if_neg (fun e => Bool.noConfusion (e.symm.trans (tk_t (bI_1 c27)))), e1]
              exact pm_k p50M p50A (p9F.tr p50F (Nat.le_refl _)) (Nat.le_refl _)
        · refine sw_aload_n (pc' := 31) rfl dX5_take_30 rfl ?_
          refine sw_V (M' := MX5_no) (d' := d - 1) (bc' := 0) (bs' := 0) (ci := 6) (as := []) dX5_take_31 w_1184 ok_X5_no (q_no p9M p9A) p9M.ob rfl (by omega) (Nat.le_of_ble_eq_true rfl) (Nat.zero_le _) (Nat.zero_le _) (fun E h' n' _ z => rp_x z) (rp_k (fun p31 p31ρ p31τ p31M p31A p31F => ?_))
          obtain ⟨Gp31, hGp31, eGp31⟩ := p31M.out
          refine sw_ret (v := some _) ⟨dX5_take_34, _, rfl, rfl⟩ ?_
          rw [opTake, onSh_k hk, if_neg qx, if_pos (tk_f c20 (bI_0 c27))]
          exact pm_k p31M p31A (p9F.tr p31F (Nat.le_refl _)) (Nat.le_refl _)
    · exact absurd c12 (by decide +kernel)
theorem q_clear {h : AH} {d bc bs n : Nat} {σ : CS} {th : Int32} {a : Int32} (hR : RMo h σ th) (hI : Iv σ) (hn : 159 ≤ n) (hd : 8 ≤ d) (h1 : 1 ≤ bc) (h2 : 12 ≤ bs)  : SM SR0 MX5_clear d bc bs [.ref 135, .int a] h n (PM h n (tc sI sI) (opClear σ a)) := by
  obtain ⟨ρ, τ, hM, hA⟩ := hR
  obtain ⟨G0, hG0, eG0⟩ := hM.out
  refine sm_of pn_OverwalksModel rfl (Nat.le_of_ble_eq_true rfl) ?_
  rcases idxN 11 (by decide +kernel) a with qk1 | ⟨k, hk, rfl⟩
  · refine sw_aload_n (pc' := 1) rfl dX5_clear_0 rfl ?_
    refine sw_iload_n (pc' := 2) rfl dX5_clear_1 rfl ?_
    refine sw_S (M' := MX5_isNone) (d' := d - 1) (bc' := 0) (bs' := 0) (as := [_]) dX5_clear_2 w_1165 ok_X5_isNone (q_isNone (by omega)) (by omega) (Nat.le_of_ble_eq_true rfl) (Nat.zero_le _) (Nat.zero_le _) (fun E h' n' _ z => det_x z) (det_k ?_)
    rw [show inB a 0 10 = false from no_x (N := 10) (by decide +kernel) qk1]
    show SW _ _ _ _ _ _ _ (.int 1 :: _) _ _ _
    refine sw_V (M' := MX5_isStopped__) (d' := d - 1) (bc' := 0) (bs' := 0) (ci := 6) (as := [_]) dX5_clear_5 w_1235 ok_X5_isStopped__ (q_isStopped1 (a := true) hM hA (by omega)) hM.ob rfl (by omega) (Nat.le_of_ble_eq_true rfl) (Nat.zero_le _) (Nat.zero_le _) (fun E h' n' _ z => rp_x z) (rp_k (fun p5 p5ρ p5τ p5M p5A p5F => ?_))
    obtain ⟨Gp5, hGp5, eGp5⟩ := p5M.out
    show SW _ _ _ _ _ _ _ (.int 1 :: _) _ _ _
    refine sw_if_eq (pc' := 11) (tgt := 13) rfl dX5_clear_8 (by decide +kernel) (fun c8 => ?_) (fun c8 => ?_)
    · exact absurd c8 (by decide +kernel)
    · refine sw_iconst (pc' := 12) (v := 0) rfl dX5_clear_11 (by decide +kernel) ?_
      refine sw_ret (v := some _) ⟨dX5_clear_12, _, rfl, rfl⟩ ?_
      rw [opClear, onSh_x qk1]
      exact pm_x tc_1 p5M p5A p5F (Nat.le_refl _)
  have hck := hI.1 k hk
  refine sw_aload_n (pc' := 1) rfl dX5_clear_0 rfl ?_
  refine sw_iload_n (pc' := 2) rfl dX5_clear_1 rfl ?_
  refine sw_S (M' := MX5_isNone) (d' := d - 1) (bc' := 0) (bs' := 0) (as := [_]) dX5_clear_2 w_1165 ok_X5_isNone (q_isNone (by omega)) (by omega) (Nat.le_of_ble_eq_true rfl) (Nat.zero_le _) (Nat.zero_le _) (fun E h' n' _ z => det_x z) (det_k ?_)
  rw [show inB (nI k) 0 10 = true from inB_k (N := 10) (by omega) (by decide +kernel)]
  show SW _ _ _ _ _ _ _ (.int 0 :: _) _ _ _
  refine sw_V (M' := MX5_isStopped__) (d' := d - 1) (bc' := 0) (bs' := 0) (ci := 6) (as := [_]) dX5_clear_5 w_1235 ok_X5_isStopped__ (q_isStopped1 (a := false) hM hA (by omega)) hM.ob rfl (by omega) (Nat.le_of_ble_eq_true rfl) (Nat.zero_le _) (Nat.zero_le _) (fun E h' n' _ z => rp_x z) (rp_k (fun p5 p5ρ p5τ p5M p5A p5F => ?_))
  obtain ⟨Gp5, hGp5, eGp5⟩ := p5M.out
  show SW _ _ _ _ _ _ _ (.int 0 :: _) _ _ _
  refine sw_if_eq (pc' := 11) (tgt := 13) rfl dX5_clear_8 (by decide +kernel) (fun c8 => ?_) (fun c8 => ?_)
  · refine sw_aload_n (pc' := 14) rfl dX5_clear_13 rfl ?_
    refine sw_getf (ci := 6) (k := 4) (pc' := 17) rfl dX5_clear_14 (by decide +kernel) w_1117 p5M.ob rfl ?_
    refine sw_iload_n (pc' := 18) rfl dX5_clear_17 rfl ?_
    refine sw_iald (j := k) (pc' := 19) rfl dX5_clear_18 p5M.sz rfl (by omega) (by decide +kernel) ?_
    refine sw_istore_n (pc' := 20) (lv' := [(2, _), (0, _), (1, _)]) rfl dX5_clear_19 (by decide +kernel) rfl ?_
    refine sw_iload_n (pc' := 21) rfl dX5_clear_20 rfl ?_
    refine sw_S (M' := MX5_isTable) (d' := d - 1) (bc' := 0) (bs' := 0) (as := [_]) dX5_clear_21 w_1178 ok_X5_isTable (q_isTable) (by omega) (Nat.le_of_ble_eq_true rfl) (Nat.zero_le _) (Nat.zero_le _) (fun E h' n' _ z => det_x z) (det_k ?_)
    rw [tb_k (k := k) (by omega)]
    refine sw_if_eq (pc' := 27) (tgt := 42) rfl dX5_clear_24 (by decide +kernel) (fun c24 => ?_) (fun c24 => ?_)
    · refine sw_aload_n (pc' := 43) rfl dX5_clear_42 rfl ?_
      refine sw_iload_n (pc' := 44) rfl dX5_clear_43 rfl ?_
      refine sw_V (M' := MX5_empty) (d' := d - 1) (bc' := 0) (bs' := 0) (ci := 6) (as := [_]) dX5_clear_44 w_1239 ok_X5_empty (q_empty p5M p5A (k := k) (by omega) (hI.1 k (by omega))) p5M.ob rfl (by omega) (Nat.le_of_ble_eq_true rfl) (Nat.zero_le _) (Nat.zero_le _) (fun E h' n' _ z => rp_x z) (rp_k (fun p44 p44ρ p44τ p44M p44A p44F => ?_))
      obtain ⟨Gp44, hGp44, eGp44⟩ := p44M.out
      refine sw_iload_n (pc' := 48) rfl dX5_clear_47 rfl ?_
      refine sw_ret (v := some _) ⟨dX5_clear_48, _, rfl, rfl⟩ ?_
      rw [opClear, onSh_k hk, laU, if_neg (of_decide_eq_false (bI_0 c24))]
      exact pm_k p44M p44A (p5F.tr p44F (Nat.le_refl _)) (Nat.le_refl _)
    · refine sw_aload_n (pc' := 28) rfl dX5_clear_27 rfl ?_
      refine sw_bipush (pc' := 30) (v := 6) rfl dX5_clear_28 (by decide +kernel) ?_
      refine sw_V (M' := MX5_empty) (d' := d - 1) (bc' := 0) (bs' := 0) (ci := 6) (as := [_]) dX5_clear_30 w_1239 ok_X5_empty (q_empty p5M p5A (k := 6) (by omega) (hI.1 6 (by omega))) p5M.ob rfl (by omega) (Nat.le_of_ble_eq_true rfl) (Nat.zero_le _) (Nat.zero_le _) (fun E h' n' _ z => rp_x z) (rp_k (fun p30 p30ρ p30τ p30M p30A p30F => ?_))
      obtain ⟨Gp30, hGp30, eGp30⟩ := p30M.out
      refine sw_aload_n (pc' := 34) rfl dX5_clear_33 rfl ?_
      refine sw_bipush (pc' := 36) (v := 7) rfl dX5_clear_34 (by decide +kernel) ?_
      refine sw_V (M' := MX5_empty) (d' := d - 1) (bc' := 0) (bs' := 0) (ci := 6) (as := [_]) dX5_clear_36 w_1239 ok_X5_empty (q_empty p30M p30A (k := 7) (by omega) (hI.1 7 (by omega))) p30M.ob rfl (by omega) (Nat.le_of_ble_eq_true rfl) (Nat.zero_le _) (Nat.zero_le _) (fun E h' n' _ z => rp_x z) (rp_k (fun p36 p36ρ p36τ p36M p36A p36F => ?_))
      obtain ⟨Gp36, hGp36, eGp36⟩ := p36M.out
      refine sw_goto (tgt := 47) dX5_clear_39 (by decide +kernel) ?_
      refine sw_iload_n (pc' := 48) rfl dX5_clear_47 rfl ?_
      refine sw_ret (v := some _) ⟨dX5_clear_48, _, rfl, rfl⟩ ?_
      rw [opClear, onSh_k hk, laU, if_pos (of_decide_eq_true (bI_1 c24))]
      exact pm_k p36M p36A ((p5F.tr p30F (Nat.le_refl _)).tr p36F (Nat.le_refl _)) (Nat.le_refl _)
  · exact absurd c8 (by decide +kernel)
theorem q_change {h : AH} {d bc bs n : Nat} {σ : CS} {th : Int32} {a p x : Int32} (hR : RMo h σ th) (hI : Iv σ) (hn : 159 ≤ n) (hd : 8 ≤ d) (h1 : 1 ≤ bc) (h2 : 12 ≤ bs)  : SM SR0 MX5_change d bc bs [.ref 135, .int a, .int p, .int x] h n (PM h n (tc sI sA) (opChange σ a p x)) := by
  obtain ⟨ρ, τ, hM, hA⟩ := hR
  obtain ⟨G0, hG0, eG0⟩ := hM.out
  refine sm_of pn_OverwalksModel rfl (Nat.le_of_ble_eq_true rfl) ?_
  rcases idxN 11 (by decide +kernel) a with qk1 | ⟨k, hk, rfl⟩
  · refine sw_aload_n (pc' := 1) rfl dX5_change_0 rfl ?_
    refine sw_aload_n (pc' := 2) rfl dX5_change_1 rfl ?_
    refine sw_iload_n (pc' := 3) rfl dX5_change_2 rfl ?_
    refine sw_iload_n (pc' := 4) rfl dX5_change_3 rfl ?_
    refine sw_V (M' := MX5_isNoPlace) (d' := d - 1) (bc' := 0) (bs' := 0) (ci := 6) (as := [_, _]) dX5_change_4 w_1263 ok_X5_isNoPlace (q_isNoPlace hM (by omega)) hM.ob rfl (by omega) (Nat.le_of_ble_eq_true rfl) (Nat.zero_le _) (Nat.zero_le _) (fun E h' n' _ z => det_x z) (det_k ?_)
    rw [show npB σ a p = true from np_r (nrB_x qk1)]
    show SW _ _ _ _ _ _ _ (.int 1 :: _) _ _ _
    refine sw_iload_n (pc' := 8) rfl dX5_change_7 rfl ?_
    refine sw_S (M' := MX5_isNoThing) (d' := d - 1) (bc' := 0) (bs' := 0) (as := [_]) dX5_change_8 w_1171 ok_X5_isNoThing (q_isNoThing (by omega)) (by omega) (Nat.le_of_ble_eq_true rfl) (Nat.zero_le _) (Nat.zero_le _) (fun E h' n' _ z => det_x z) (det_k ?_)
    refine sw_V (M' := MX5_isStopped_) (d' := d - 1) (bc' := 0) (bs' := 0) (ci := 6) (as := [_, _]) dX5_change_11 w_1215 ok_X5_isStopped_ (q_isStopped2 (a := true) (b := (!inB x 0 100)) hM hA (by omega)) hM.ob rfl (by omega) (Nat.le_of_ble_eq_true rfl) (Nat.zero_le _) (Nat.zero_le _) (fun E h' n' _ z => rp_x z) (rp_k (fun p11 p11ρ p11τ p11M p11A p11F => ?_))
    obtain ⟨Gp11, hGp11, eGp11⟩ := p11M.out
    show SW _ _ _ _ _ _ _ (.int 1 :: _) _ _ _
    refine sw_if_eq (pc' := 17) (tgt := 19) rfl dX5_change_14 (by decide +kernel) (fun c14 => ?_) (fun c14 => ?_)
    · exact absurd c14 (by decide +kernel)
    · refine sw_iconst (pc' := 18) (v := 0) rfl dX5_change_17 (by decide +kernel) ?_
      refine sw_ret (v := some _) ⟨dX5_change_18, _, rfl, rfl⟩ ?_
      rw [opChange, onRw_x qk1]
      exact pm_x tc_1 p11M p11A p11F (Nat.le_refl _)
  rcases Classical.em (kP (kdO k) = false) with qk | qk
  · refine sw_aload_n (pc' := 1) rfl dX5_change_0 rfl ?_
    refine sw_aload_n (pc' := 2) rfl dX5_change_1 rfl ?_
    refine sw_iload_n (pc' := 3) rfl dX5_change_2 rfl ?_
    refine sw_iload_n (pc' := 4) rfl dX5_change_3 rfl ?_
    refine sw_V (M' := MX5_isNoPlace) (d' := d - 1) (bc' := 0) (bs' := 0) (ci := 6) (as := [_, _]) dX5_change_4 w_1263 ok_X5_isNoPlace (q_isNoPlace hM (by omega)) hM.ob rfl (by omega) (Nat.le_of_ble_eq_true rfl) (Nat.zero_le _) (Nat.zero_le _) (fun E h' n' _ z => det_x z) (det_k ?_)
    rw [show npB σ (nI k) p = true from np_r (nrB_y hk qk)]
    show SW _ _ _ _ _ _ _ (.int 1 :: _) _ _ _
    refine sw_iload_n (pc' := 8) rfl dX5_change_7 rfl ?_
    refine sw_S (M' := MX5_isNoThing) (d' := d - 1) (bc' := 0) (bs' := 0) (as := [_]) dX5_change_8 w_1171 ok_X5_isNoThing (q_isNoThing (by omega)) (by omega) (Nat.le_of_ble_eq_true rfl) (Nat.zero_le _) (Nat.zero_le _) (fun E h' n' _ z => det_x z) (det_k ?_)
    refine sw_V (M' := MX5_isStopped_) (d' := d - 1) (bc' := 0) (bs' := 0) (ci := 6) (as := [_, _]) dX5_change_11 w_1215 ok_X5_isStopped_ (q_isStopped2 (a := true) (b := (!inB x 0 100)) hM hA (by omega)) hM.ob rfl (by omega) (Nat.le_of_ble_eq_true rfl) (Nat.zero_le _) (Nat.zero_le _) (fun E h' n' _ z => rp_x z) (rp_k (fun p11 p11ρ p11τ p11M p11A p11F => ?_))
    obtain ⟨Gp11, hGp11, eGp11⟩ := p11M.out
    show SW _ _ _ _ _ _ _ (.int 1 :: _) _ _ _
    refine sw_if_eq (pc' := 17) (tgt := 19) rfl dX5_change_14 (by decide +kernel) (fun c14 => ?_) (fun c14 => ?_)
    · exact absurd c14 (by decide +kernel)
    · refine sw_iconst (pc' := 18) (v := 0) rfl dX5_change_17 (by decide +kernel) ?_
      refine sw_ret (v := some _) ⟨dX5_change_18, _, rfl, rfl⟩ ?_
      rw [opChange, onRw_y hk qk]
      exact pm_x tc_1 p11M p11A p11F (Nat.le_refl _)
  have hck := hI.1 k hk
  rcases idxN (σ.2.1 k) (by omega) p with qP | ⟨P, hP, rfl⟩
  · refine sw_aload_n (pc' := 1) rfl dX5_change_0 rfl ?_
    refine sw_aload_n (pc' := 2) rfl dX5_change_1 rfl ?_
    refine sw_iload_n (pc' := 3) rfl dX5_change_2 rfl ?_
    refine sw_iload_n (pc' := 4) rfl dX5_change_3 rfl ?_
    refine sw_V (M' := MX5_isNoPlace) (d' := d - 1) (bc' := 0) (bs' := 0) (ci := 6) (as := [_, _]) dX5_change_4 w_1263 ok_X5_isNoPlace (q_isNoPlace hM (by omega)) hM.ob rfl (by omega) (Nat.le_of_ble_eq_true rfl) (Nat.zero_le _) (Nat.zero_le _) (fun E h' n' _ z => det_x z) (det_k ?_)
    rw [show npB σ (nI k) p = true from np_b (by omega) (by omega) qP]
    show SW _ _ _ _ _ _ _ (.int 1 :: _) _ _ _
    refine sw_iload_n (pc' := 8) rfl dX5_change_7 rfl ?_
    refine sw_S (M' := MX5_isNoThing) (d' := d - 1) (bc' := 0) (bs' := 0) (as := [_]) dX5_change_8 w_1171 ok_X5_isNoThing (q_isNoThing (by omega)) (by omega) (Nat.le_of_ble_eq_true rfl) (Nat.zero_le _) (Nat.zero_le _) (fun E h' n' _ z => det_x z) (det_k ?_)
    refine sw_V (M' := MX5_isStopped_) (d' := d - 1) (bc' := 0) (bs' := 0) (ci := 6) (as := [_, _]) dX5_change_11 w_1215 ok_X5_isStopped_ (q_isStopped2 (a := true) (b := (!inB x 0 100)) hM hA (by omega)) hM.ob rfl (by omega) (Nat.le_of_ble_eq_true rfl) (Nat.zero_le _) (Nat.zero_le _) (fun E h' n' _ z => rp_x z) (rp_k (fun p11 p11ρ p11τ p11M p11A p11F => ?_))
    obtain ⟨Gp11, hGp11, eGp11⟩ := p11M.out
    show SW _ _ _ _ _ _ _ (.int 1 :: _) _ _ _
    refine sw_if_eq (pc' := 17) (tgt := 19) rfl dX5_change_14 (by decide +kernel) (fun c14 => ?_) (fun c14 => ?_)
    · exact absurd c14 (by decide +kernel)
    · refine sw_iconst (pc' := 18) (v := 0) rfl dX5_change_17 (by decide +kernel) ?_
      refine sw_ret (v := some _) ⟨dX5_change_18, _, rfl, rfl⟩ ?_
      rw [opChange, onRw_k hk qk, if_pos qP]
      exact pm_x tc_1 p11M p11A p11F (Nat.le_refl _)
  rcases Classical.em (x < 0 ∨ 100 < x) with qx | qx
  · refine sw_aload_n (pc' := 1) rfl dX5_change_0 rfl ?_
    refine sw_aload_n (pc' := 2) rfl dX5_change_1 rfl ?_
    refine sw_iload_n (pc' := 3) rfl dX5_change_2 rfl ?_
    refine sw_iload_n (pc' := 4) rfl dX5_change_3 rfl ?_
    refine sw_V (M' := MX5_isNoPlace) (d' := d - 1) (bc' := 0) (bs' := 0) (ci := 6) (as := [_, _]) dX5_change_4 w_1263 ok_X5_isNoPlace (q_isNoPlace hM (by omega)) hM.ob rfl (by omega) (Nat.le_of_ble_eq_true rfl) (Nat.zero_le _) (Nat.zero_le _) (fun E h' n' _ z => det_x z) (det_k ?_)
    rw [show npB σ (nI k) (nI P) = false from np_k (by omega) (nrB_k hk qk) (by omega) hP]
    show SW _ _ _ _ _ _ _ (.int 0 :: _) _ _ _
    refine sw_iload_n (pc' := 8) rfl dX5_change_7 rfl ?_
    refine sw_S (M' := MX5_isNoThing) (d' := d - 1) (bc' := 0) (bs' := 0) (as := [_]) dX5_change_8 w_1171 ok_X5_isNoThing (q_isNoThing (by omega)) (by omega) (Nat.le_of_ble_eq_true rfl) (Nat.zero_le _) (Nat.zero_le _) (fun E h' n' _ z => det_x z) (det_k ?_)
    rw [show inB x 0 100 = false from inB_x qx]
    show SW _ _ _ _ _ _ _ (.int 1 :: _) _ _ _
    refine sw_V (M' := MX5_isStopped_) (d' := d - 1) (bc' := 0) (bs' := 0) (ci := 6) (as := [_, _]) dX5_change_11 w_1215 ok_X5_isStopped_ (q_isStopped2 (a := false) (b := true) hM hA (by omega)) hM.ob rfl (by omega) (Nat.le_of_ble_eq_true rfl) (Nat.zero_le _) (Nat.zero_le _) (fun E h' n' _ z => rp_x z) (rp_k (fun p11 p11ρ p11τ p11M p11A p11F => ?_))
    obtain ⟨Gp11, hGp11, eGp11⟩ := p11M.out
    show SW _ _ _ _ _ _ _ (.int 1 :: _) _ _ _
    refine sw_if_eq (pc' := 17) (tgt := 19) rfl dX5_change_14 (by decide +kernel) (fun c14 => ?_) (fun c14 => ?_)
    · exact absurd c14 (by decide +kernel)
    · refine sw_iconst (pc' := 18) (v := 0) rfl dX5_change_17 (by decide +kernel) ?_
      refine sw_ret (v := some _) ⟨dX5_change_18, _, rfl, rfl⟩ ?_
      rw [opChange, onRw_k hk qk, if_neg (nok (by omega) hP), nI_clamp (n := P) (by omega), if_pos qx]
      exact pm_x (tc_2 sAI) p11M p11A p11F (Nat.le_refl _)
  refine sw_aload_n (pc' := 1) rfl dX5_change_0 rfl ?_
  refine sw_aload_n (pc' := 2) rfl dX5_change_1 rfl ?_
  refine sw_iload_n (pc' := 3) rfl dX5_change_2 rfl ?_
  refine sw_iload_n (pc' := 4) rfl dX5_change_3 rfl ?_
  refine sw_V (M' := MX5_isNoPlace) (d' := d - 1) (bc' := 0) (bs' := 0) (ci := 6) (as := [_, _]) dX5_change_4 w_1263 ok_X5_isNoPlace (q_isNoPlace hM (by omega)) hM.ob rfl (by omega) (Nat.le_of_ble_eq_true rfl) (Nat.zero_le _) (Nat.zero_le _) (fun E h' n' _ z => det_x z) (det_k ?_)
  rw [show npB σ (nI k) (nI P) = false from np_k (by omega) (nrB_k hk qk) (by omega) hP]
  show SW _ _ _ _ _ _ _ (.int 0 :: _) _ _ _
  refine sw_iload_n (pc' := 8) rfl dX5_change_7 rfl ?_
  refine sw_S (M' := MX5_isNoThing) (d' := d - 1) (bc' := 0) (bs' := 0) (as := [_]) dX5_change_8 w_1171 ok_X5_isNoThing (q_isNoThing (by omega)) (by omega) (Nat.le_of_ble_eq_true rfl) (Nat.zero_le _) (Nat.zero_le _) (fun E h' n' _ z => det_x z) (det_k ?_)
  rw [show inB x 0 100 = true from inB_n qx]
  show SW _ _ _ _ _ _ _ (.int 0 :: _) _ _ _
  refine sw_V (M' := MX5_isStopped_) (d' := d - 1) (bc' := 0) (bs' := 0) (ci := 6) (as := [_, _]) dX5_change_11 w_1215 ok_X5_isStopped_ (q_isStopped2 (a := false) (b := false) hM hA (by omega)) hM.ob rfl (by omega) (Nat.le_of_ble_eq_true rfl) (Nat.zero_le _) (Nat.zero_le _) (fun E h' n' _ z => rp_x z) (rp_k (fun p11 p11ρ p11τ p11M p11A p11F => ?_))
  obtain ⟨Gp11, hGp11, eGp11⟩ := p11M.out
  show SW _ _ _ _ _ _ _ (.int 0 :: _) _ _ _
  refine sw_if_eq (pc' := 17) (tgt := 19) rfl dX5_change_14 (by decide +kernel) (fun c14 => ?_) (fun c14 => ?_)
  · refine sw_aload_n (pc' := 20) rfl dX5_change_19 rfl ?_
    refine sw_getf (ci := 6) (k := 3) (pc' := 23) rfl dX5_change_20 (by decide +kernel) w_1116 p11M.ob rfl ?_
    refine sw_iload_n (pc' := 24) rfl dX5_change_23 rfl ?_
    refine sw_aald (j := k) (pc' := 25) rfl dX5_change_24 hGp11 (by decide +kernel) (by decide +kernel) rfl (by omega) (by decide +kernel) (eGp11 k (by omega)) ?_
    refine sw_iload_n (pc' := 26) rfl dX5_change_25 rfl ?_
    refine sw_iald (j := P) (pc' := 27) rfl dX5_change_26 (p11M.row (k := k) (by omega)) rfl (by omega) (by decide +kernel) ?_
    rw [p11A.1 k (by omega) P (by omega)]
    refine sw_istore (pc' := 29) (lv' := [(4, _), (0, _), (1, _), (2, _), (3, _)]) rfl dX5_change_27 (by decide +kernel) rfl ?_
    refine sw_aload_n (pc' := 30) rfl dX5_change_29 rfl ?_
    refine sw_getf (ci := 6) (k := 3) (pc' := 33) rfl dX5_change_30 (by decide +kernel) w_1116 p11M.ob rfl ?_
    refine sw_iload_n (pc' := 34) rfl dX5_change_33 rfl ?_
    refine sw_aald (j := k) (pc' := 35) rfl dX5_change_34 hGp11 (by decide +kernel) (by decide +kernel) rfl (by omega) (by decide +kernel) (eGp11 k (by omega)) ?_
    refine sw_iload_n (pc' := 36) rfl dX5_change_35 rfl ?_
    refine sw_iload_n (pc' := 37) rfl dX5_change_36 rfl ?_
    refine sw_iast (j := P) (pc' := 38) rfl dX5_change_37 (p11M.row (k := k) (by omega)) (by show 100 ≤ _; omega) rfl (by omega) (by decide +kernel) ?_
    refine sw_nm (fun g1 eg1 => ?_)
    have zg1 := (congrFun eg1 (137 + k)).trans (up_s (h := p11) (i := (137 + k)))
    refine sw_aload_n (pc' := 39) rfl dX5_change_38 rfl ?_
    refine sw_getf (ci := 6) (k := 12) (pc' := 42) rfl dX5_change_39 (by decide +kernel) w_1125 (((congrFun eg1 135).trans (up_n (by omega))).trans p11M.ob) rfl ?_
    refine sw_iload_n (pc' := 43) rfl dX5_change_42 rfl ?_
    refine sw_dup2 (pc' := 44) rfl dX5_change_43 rfl rfl ?_
    refine sw_iald (j := k) (pc' := 45) rfl dX5_change_44 (((congrFun eg1 156).trans (up_n (by omega))).trans p11M.tu) rfl (by omega) (by decide +kernel) ?_
    refine sw_iconst (pc' := 46) (v := 1) rfl dX5_change_45 (by decide +kernel) ?_
    refine sw_iadd (pc' := 47) rfl dX5_change_46 ?_
    refine sw_iast (j := k) (pc' := 48) rfl dX5_change_47 (((congrFun eg1 156).trans (up_n (by omega))).trans p11M.tu) (by decide +kernel) rfl (by omega) (by decide +kernel) ?_
    refine sw_nm (fun g2 eg2 => ?_)
    have zg2 := (congrFun eg2 156).trans (up_s (h := g1) (i := 156))
    refine sw_iload (pc' := 50) rfl dX5_change_48 rfl ?_
    refine sw_ret (v := some _) ⟨dX5_change_50, _, rfl, rfl⟩ ?_
    rw [opChange, onRw_k hk qk, if_neg (nok (by omega) hP), nI_clamp (n := P) (by omega), if_neg qx]
    exact pm_k (p11M.rwT hk (((congrFun eg2 (137 + k)).trans (up_n (by omega))).trans zg1) zg2 (fun i h1 h2 => (congrFun eg2 i).trans ((up_n (by omega)).trans ((congrFun eg1 i).trans ((up_n (by omega)).trans (rfl)))))) (p11A.shU (up_at (p11A.1 k hk))) (p11F.tr (FrM.of1 (fun i q => (congrFun eg2 i).trans ((up_n (by omega)).trans ((congrFun eg1 i).trans ((up_n (by omega)).trans (rfl)))))) (Nat.le_refl _)) (Nat.le_refl _)
  · exact absurd c14 (by decide +kernel)
theorem q_remove {h : AH} {d bc bs n : Nat} {σ : CS} {th : Int32} {a p : Int32} (hR : RMo h σ th) (hI : Iv σ) (hn : 159 ≤ n) (hd : 8 ≤ d) (h1 : 1 ≤ bc) (h2 : 12 ≤ bs)  : SM SR0 MX5_remove d bc bs [.ref 135, .int a, .int p] h n (PM h n (tc sI sI) (opRemove σ a p)) := by
  obtain ⟨ρ, τ, hM, hA⟩ := hR
  obtain ⟨G0, hG0, eG0⟩ := hM.out
  refine sm_of pn_OverwalksModel rfl (Nat.le_of_ble_eq_true rfl) ?_
  rcases idxN 11 (by decide +kernel) a with qk1 | ⟨k, hk, rfl⟩
  · refine sw_aload_n (pc' := 1) rfl dX5_remove_0 rfl ?_
    refine sw_aload_n (pc' := 2) rfl dX5_remove_1 rfl ?_
    refine sw_iload_n (pc' := 3) rfl dX5_remove_2 rfl ?_
    refine sw_iload_n (pc' := 4) rfl dX5_remove_3 rfl ?_
    refine sw_V (M' := MX5_isNoPlace) (d' := d - 1) (bc' := 0) (bs' := 0) (ci := 6) (as := [_, _]) dX5_remove_4 w_1263 ok_X5_isNoPlace (q_isNoPlace hM (by omega)) hM.ob rfl (by omega) (Nat.le_of_ble_eq_true rfl) (Nat.zero_le _) (Nat.zero_le _) (fun E h' n' _ z => det_x z) (det_k ?_)
    rw [show npB σ a p = true from np_r (nrB_x qk1)]
    show SW _ _ _ _ _ _ _ (.int 1 :: _) _ _ _
    refine sw_V (M' := MX5_isStopped__) (d' := d - 1) (bc' := 0) (bs' := 0) (ci := 6) (as := [_]) dX5_remove_7 w_1235 ok_X5_isStopped__ (q_isStopped1 (a := true) hM hA (by omega)) hM.ob rfl (by omega) (Nat.le_of_ble_eq_true rfl) (Nat.zero_le _) (Nat.zero_le _) (fun E h' n' _ z => rp_x z) (rp_k (fun p7 p7ρ p7τ p7M p7A p7F => ?_))
    obtain ⟨Gp7, hGp7, eGp7⟩ := p7M.out
    show SW _ _ _ _ _ _ _ (.int 1 :: _) _ _ _
    refine sw_if_eq (pc' := 13) (tgt := 15) rfl dX5_remove_10 (by decide +kernel) (fun c10 => ?_) (fun c10 => ?_)
    · exact absurd c10 (by decide +kernel)
    · refine sw_iconst (pc' := 14) (v := 0) rfl dX5_remove_13 (by decide +kernel) ?_
      refine sw_ret (v := some _) ⟨dX5_remove_14, _, rfl, rfl⟩ ?_
      rw [opRemove, onRw_x qk1]
      exact pm_x tc_1 p7M p7A p7F (Nat.le_refl _)
  rcases Classical.em (kP (kdO k) = false) with qk | qk
  · refine sw_aload_n (pc' := 1) rfl dX5_remove_0 rfl ?_
    refine sw_aload_n (pc' := 2) rfl dX5_remove_1 rfl ?_
    refine sw_iload_n (pc' := 3) rfl dX5_remove_2 rfl ?_
    refine sw_iload_n (pc' := 4) rfl dX5_remove_3 rfl ?_
    refine sw_V (M' := MX5_isNoPlace) (d' := d - 1) (bc' := 0) (bs' := 0) (ci := 6) (as := [_, _]) dX5_remove_4 w_1263 ok_X5_isNoPlace (q_isNoPlace hM (by omega)) hM.ob rfl (by omega) (Nat.le_of_ble_eq_true rfl) (Nat.zero_le _) (Nat.zero_le _) (fun E h' n' _ z => det_x z) (det_k ?_)
    rw [show npB σ (nI k) p = true from np_r (nrB_y hk qk)]
    show SW _ _ _ _ _ _ _ (.int 1 :: _) _ _ _
    refine sw_V (M' := MX5_isStopped__) (d' := d - 1) (bc' := 0) (bs' := 0) (ci := 6) (as := [_]) dX5_remove_7 w_1235 ok_X5_isStopped__ (q_isStopped1 (a := true) hM hA (by omega)) hM.ob rfl (by omega) (Nat.le_of_ble_eq_true rfl) (Nat.zero_le _) (Nat.zero_le _) (fun E h' n' _ z => rp_x z) (rp_k (fun p7 p7ρ p7τ p7M p7A p7F => ?_))
    obtain ⟨Gp7, hGp7, eGp7⟩ := p7M.out
    show SW _ _ _ _ _ _ _ (.int 1 :: _) _ _ _
    refine sw_if_eq (pc' := 13) (tgt := 15) rfl dX5_remove_10 (by decide +kernel) (fun c10 => ?_) (fun c10 => ?_)
    · exact absurd c10 (by decide +kernel)
    · refine sw_iconst (pc' := 14) (v := 0) rfl dX5_remove_13 (by decide +kernel) ?_
      refine sw_ret (v := some _) ⟨dX5_remove_14, _, rfl, rfl⟩ ?_
      rw [opRemove, onRw_y hk qk]
      exact pm_x tc_1 p7M p7A p7F (Nat.le_refl _)
  have hck := hI.1 k hk
  rcases idxN (σ.2.1 k) (by omega) p with qP | ⟨P, hP, rfl⟩
  · refine sw_aload_n (pc' := 1) rfl dX5_remove_0 rfl ?_
    refine sw_aload_n (pc' := 2) rfl dX5_remove_1 rfl ?_
    refine sw_iload_n (pc' := 3) rfl dX5_remove_2 rfl ?_
    refine sw_iload_n (pc' := 4) rfl dX5_remove_3 rfl ?_
    refine sw_V (M' := MX5_isNoPlace) (d' := d - 1) (bc' := 0) (bs' := 0) (ci := 6) (as := [_, _]) dX5_remove_4 w_1263 ok_X5_isNoPlace (q_isNoPlace hM (by omega)) hM.ob rfl (by omega) (Nat.le_of_ble_eq_true rfl) (Nat.zero_le _) (Nat.zero_le _) (fun E h' n' _ z => det_x z) (det_k ?_)
    rw [show npB σ (nI k) p = true from np_b (by omega) (by omega) qP]
    show SW _ _ _ _ _ _ _ (.int 1 :: _) _ _ _
    refine sw_V (M' := MX5_isStopped__) (d' := d - 1) (bc' := 0) (bs' := 0) (ci := 6) (as := [_]) dX5_remove_7 w_1235 ok_X5_isStopped__ (q_isStopped1 (a := true) hM hA (by omega)) hM.ob rfl (by omega) (Nat.le_of_ble_eq_true rfl) (Nat.zero_le _) (Nat.zero_le _) (fun E h' n' _ z => rp_x z) (rp_k (fun p7 p7ρ p7τ p7M p7A p7F => ?_))
    obtain ⟨Gp7, hGp7, eGp7⟩ := p7M.out
    show SW _ _ _ _ _ _ _ (.int 1 :: _) _ _ _
    refine sw_if_eq (pc' := 13) (tgt := 15) rfl dX5_remove_10 (by decide +kernel) (fun c10 => ?_) (fun c10 => ?_)
    · exact absurd c10 (by decide +kernel)
    · refine sw_iconst (pc' := 14) (v := 0) rfl dX5_remove_13 (by decide +kernel) ?_
      refine sw_ret (v := some _) ⟨dX5_remove_14, _, rfl, rfl⟩ ?_
      rw [opRemove, onRw_k hk qk, if_pos qP]
      exact pm_x tc_1 p7M p7A p7F (Nat.le_refl _)
  refine sw_aload_n (pc' := 1) rfl dX5_remove_0 rfl ?_
  refine sw_aload_n (pc' := 2) rfl dX5_remove_1 rfl ?_
  refine sw_iload_n (pc' := 3) rfl dX5_remove_2 rfl ?_
  refine sw_iload_n (pc' := 4) rfl dX5_remove_3 rfl ?_
  refine sw_V (M' := MX5_isNoPlace) (d' := d - 1) (bc' := 0) (bs' := 0) (ci := 6) (as := [_, _]) dX5_remove_4 w_1263 ok_X5_isNoPlace (q_isNoPlace hM (by omega)) hM.ob rfl (by omega) (Nat.le_of_ble_eq_true rfl) (Nat.zero_le _) (Nat.zero_le _) (fun E h' n' _ z => det_x z) (det_k ?_)
  rw [show npB σ (nI k) (nI P) = false from np_k (by omega) (nrB_k hk qk) (by omega) hP]
  show SW _ _ _ _ _ _ _ (.int 0 :: _) _ _ _
  refine sw_V (M' := MX5_isStopped__) (d' := d - 1) (bc' := 0) (bs' := 0) (ci := 6) (as := [_]) dX5_remove_7 w_1235 ok_X5_isStopped__ (q_isStopped1 (a := false) hM hA (by omega)) hM.ob rfl (by omega) (Nat.le_of_ble_eq_true rfl) (Nat.zero_le _) (Nat.zero_le _) (fun E h' n' _ z => rp_x z) (rp_k (fun p7 p7ρ p7τ p7M p7A p7F => ?_))
  obtain ⟨Gp7, hGp7, eGp7⟩ := p7M.out
  show SW _ _ _ _ _ _ _ (.int 0 :: _) _ _ _
  refine sw_if_eq (pc' := 13) (tgt := 15) rfl dX5_remove_10 (by decide +kernel) (fun c10 => ?_) (fun c10 => ?_)
  · refine sw_aload_n (pc' := 16) rfl dX5_remove_15 rfl ?_
    refine sw_getf (ci := 6) (k := 3) (pc' := 19) rfl dX5_remove_16 (by decide +kernel) w_1116 p7M.ob rfl ?_
    refine sw_iload_n (pc' := 20) rfl dX5_remove_19 rfl ?_
    refine sw_aald (j := k) (pc' := 21) rfl dX5_remove_20 hGp7 (by decide +kernel) (by decide +kernel) rfl (by omega) (by decide +kernel) (eGp7 k (by omega)) ?_
    refine sw_iload_n (pc' := 22) rfl dX5_remove_21 rfl ?_
    refine sw_iald (j := P) (pc' := 23) rfl dX5_remove_22 (p7M.row (k := k) (by omega)) rfl (by omega) (by decide +kernel) ?_
    rw [p7A.1 k (by omega) P (by omega)]
    refine sw_istore_n (pc' := 24) (lv' := [(3, _), (0, _), (1, _), (2, _)]) rfl dX5_remove_23 (by decide +kernel) rfl ?_
    refine sw_aload_n (pc' := 25) rfl dX5_remove_24 rfl ?_
    refine sw_iload_n (pc' := 26) rfl dX5_remove_25 rfl ?_
    refine sw_iload_n (pc' := 27) rfl dX5_remove_26 rfl ?_
    refine sw_V (M' := MX5_goAt) (d' := d - 1) (bc' := 0) (bs' := 0) (ci := 6) (as := [_, _]) dX5_remove_27 w_1227 ok_X5_goAt (q_goAt p7M p7A (k := k) (p := P) (by omega) (hI.1 k (by omega)) (by omega)) p7M.ob rfl (by omega) (Nat.le_of_ble_eq_true rfl) (Nat.zero_le _) (Nat.zero_le _) (fun E h' n' _ z => rp_x z) (rp_k (fun p27 p27ρ p27τ p27M p27A p27F => ?_))
    obtain ⟨Gp27, hGp27, eGp27⟩ := p27M.out
    refine sw_iload_n (pc' := 31) rfl dX5_remove_30 rfl ?_
    refine sw_ret (v := some _) ⟨dX5_remove_31, _, rfl, rfl⟩ ?_
    rw [opRemove, onRw_k hk qk, if_neg (nok (by omega) hP), nI_clamp (n := P) (by omega)]
    exact pm_k p27M p27A (p7F.tr p27F (Nat.le_refl _)) (Nat.le_refl _)
  · exact absurd c10 (by decide +kernel)
theorem q_insert {h : AH} {d bc bs n : Nat} {σ : CS} {th : Int32} {a p x : Int32} (hR : RMo h σ th) (hI : Iv σ) (hn : 159 ≤ n) (hd : 8 ≤ d) (h1 : 1 ≤ bc) (h2 : 12 ≤ bs)  : SM SR0 MX5_insert d bc bs [.ref 135, .int a, .int p, .int x] h n (PM h n (tc sI sA) (opInsert σ a p x)) := by
  obtain ⟨ρ, τ, hM, hA⟩ := hR
  obtain ⟨G0, hG0, eG0⟩ := hM.out
  refine sm_of pn_OverwalksModel rfl (Nat.le_of_ble_eq_true rfl) ?_
  rcases idxN 11 (by decide +kernel) a with qk1 | ⟨k, hk, rfl⟩
  · refine sw_aload_n (pc' := 1) rfl dX5_insert_0 rfl ?_
    refine sw_iload_n (pc' := 2) rfl dX5_insert_1 rfl ?_
    refine sw_S (M' := MX5_isNoRow) (d' := d - 1) (bc' := 0) (bs' := 0) (as := [_]) dX5_insert_2 w_1267 ok_X5_isNoRow (q_isNoRow (by omega)) (by omega) (Nat.le_of_ble_eq_true rfl) (Nat.zero_le _) (Nat.zero_le _) (fun E h' n' _ z => det_x z) (det_k ?_)
    rw [show nrB a = true from nrB_x qk1]
    show SW _ _ _ _ _ _ _ (.int 1 :: _) _ _ _
    refine sw_if_ne (pc' := 8) (tgt := 22) rfl dX5_insert_5 (by decide +kernel) (fun c5 => ?_) (fun c5 => ?_)
    · refine sw_iconst (pc' := 23) (v := 1) rfl dX5_insert_22 (by decide +kernel) ?_
      refine sw_goto (tgt := 27) dX5_insert_23 (by decide +kernel) ?_
      refine sw_iload_n (pc' := 28) rfl dX5_insert_27 rfl ?_
      refine sw_S (M' := MX5_isNoThing) (d' := d - 1) (bc' := 0) (bs' := 0) (as := [_]) dX5_insert_28 w_1171 ok_X5_isNoThing (q_isNoThing (by omega)) (by omega) (Nat.le_of_ble_eq_true rfl) (Nat.zero_le _) (Nat.zero_le _) (fun E h' n' _ z => det_x z) (det_k ?_)
      refine sw_iload_n (pc' := 32) rfl dX5_insert_31 rfl ?_
      refine sw_S (M' := MX5_isNoRow) (d' := d - 1) (bc' := 0) (bs' := 0) (as := [_]) dX5_insert_32 w_1267 ok_X5_isNoRow (q_isNoRow (by omega)) (by omega) (Nat.le_of_ble_eq_true rfl) (Nat.zero_le _) (Nat.zero_le _) (fun E h' n' _ z => det_x z) (det_k ?_)
      rw [show nrB a = true from nrB_x qk1]
      show SW _ _ _ _ _ _ _ (.int 1 :: _) _ _ _
      refine sw_if_ne (pc' := 38) (tgt := 53) rfl dX5_insert_35 (by decide +kernel) (fun c35 => ?_) (fun c35 => ?_)
      · refine sw_iconst (pc' := 54) (v := 0) rfl dX5_insert_53 (by decide +kernel) ?_
        refine sw_V (M' := MX5_isStopped) (d' := d - 1) (bc' := 0) (bs' := 0) (ci := 6) (as := [_, _, _]) dX5_insert_54 w_1174 ok_X5_isStopped (q_isStopped (a := true) (b := (!inB x 0 100)) (c := false) hM hA) hM.ob rfl (by omega) (Nat.le_of_ble_eq_true rfl) (Nat.zero_le _) (Nat.zero_le _) (fun E h' n' _ z => rp_x z) (rp_k (fun p54 p54ρ p54τ p54M p54A p54F => ?_))
        obtain ⟨Gp54, hGp54, eGp54⟩ := p54M.out
        show SW _ _ _ _ _ _ _ (.int 1 :: _) _ _ _
        refine sw_if_eq (pc' := 60) (tgt := 62) rfl dX5_insert_57 (by decide +kernel) (fun c57 => ?_) (fun c57 => ?_)
        · exact absurd c57 (by decide +kernel)
        · refine sw_iconst (pc' := 61) (v := 0) rfl dX5_insert_60 (by decide +kernel) ?_
          refine sw_ret (v := some _) ⟨dX5_insert_61, _, rfl, rfl⟩ ?_
          rw [opInsert, onRw_x qk1]
          exact pm_x tc_1 p54M p54A p54F (Nat.le_refl _)
      · exact absurd c35 (by decide +kernel)
    · exact absurd c5 (by decide +kernel)
  rcases Classical.em (kP (kdO k) = false) with qk | qk
  · refine sw_aload_n (pc' := 1) rfl dX5_insert_0 rfl ?_
    refine sw_iload_n (pc' := 2) rfl dX5_insert_1 rfl ?_
    refine sw_S (M' := MX5_isNoRow) (d' := d - 1) (bc' := 0) (bs' := 0) (as := [_]) dX5_insert_2 w_1267 ok_X5_isNoRow (q_isNoRow (by omega)) (by omega) (Nat.le_of_ble_eq_true rfl) (Nat.zero_le _) (Nat.zero_le _) (fun E h' n' _ z => det_x z) (det_k ?_)
    rw [show nrB (nI k) = true from nrB_y hk qk]
    show SW _ _ _ _ _ _ _ (.int 1 :: _) _ _ _
    refine sw_if_ne (pc' := 8) (tgt := 22) rfl dX5_insert_5 (by decide +kernel) (fun c5 => ?_) (fun c5 => ?_)
    · refine sw_iconst (pc' := 23) (v := 1) rfl dX5_insert_22 (by decide +kernel) ?_
      refine sw_goto (tgt := 27) dX5_insert_23 (by decide +kernel) ?_
      refine sw_iload_n (pc' := 28) rfl dX5_insert_27 rfl ?_
      refine sw_S (M' := MX5_isNoThing) (d' := d - 1) (bc' := 0) (bs' := 0) (as := [_]) dX5_insert_28 w_1171 ok_X5_isNoThing (q_isNoThing (by omega)) (by omega) (Nat.le_of_ble_eq_true rfl) (Nat.zero_le _) (Nat.zero_le _) (fun E h' n' _ z => det_x z) (det_k ?_)
      refine sw_iload_n (pc' := 32) rfl dX5_insert_31 rfl ?_
      refine sw_S (M' := MX5_isNoRow) (d' := d - 1) (bc' := 0) (bs' := 0) (as := [_]) dX5_insert_32 w_1267 ok_X5_isNoRow (q_isNoRow (by omega)) (by omega) (Nat.le_of_ble_eq_true rfl) (Nat.zero_le _) (Nat.zero_le _) (fun E h' n' _ z => det_x z) (det_k ?_)
      rw [show nrB (nI k) = true from nrB_y hk qk]
      show SW _ _ _ _ _ _ _ (.int 1 :: _) _ _ _
      refine sw_if_ne (pc' := 38) (tgt := 53) rfl dX5_insert_35 (by decide +kernel) (fun c35 => ?_) (fun c35 => ?_)
      · refine sw_iconst (pc' := 54) (v := 0) rfl dX5_insert_53 (by decide +kernel) ?_
        refine sw_V (M' := MX5_isStopped) (d' := d - 1) (bc' := 0) (bs' := 0) (ci := 6) (as := [_, _, _]) dX5_insert_54 w_1174 ok_X5_isStopped (q_isStopped (a := true) (b := (!inB x 0 100)) (c := false) hM hA) hM.ob rfl (by omega) (Nat.le_of_ble_eq_true rfl) (Nat.zero_le _) (Nat.zero_le _) (fun E h' n' _ z => rp_x z) (rp_k (fun p54 p54ρ p54τ p54M p54A p54F => ?_))
        obtain ⟨Gp54, hGp54, eGp54⟩ := p54M.out
        show SW _ _ _ _ _ _ _ (.int 1 :: _) _ _ _
        refine sw_if_eq (pc' := 60) (tgt := 62) rfl dX5_insert_57 (by decide +kernel) (fun c57 => ?_) (fun c57 => ?_)
        · exact absurd c57 (by decide +kernel)
        · refine sw_iconst (pc' := 61) (v := 0) rfl dX5_insert_60 (by decide +kernel) ?_
          refine sw_ret (v := some _) ⟨dX5_insert_61, _, rfl, rfl⟩ ?_
          rw [opInsert, onRw_y hk qk]
          exact pm_x tc_1 p54M p54A p54F (Nat.le_refl _)
      · exact absurd c35 (by decide +kernel)
    · exact absurd c5 (by decide +kernel)
  have hck := hI.1 k hk
  rcases idxN (σ.2.1 k + 1) (by omega) p with qP | ⟨P, hP, rfl⟩
  · refine sw_aload_n (pc' := 1) rfl dX5_insert_0 rfl ?_
    refine sw_iload_n (pc' := 2) rfl dX5_insert_1 rfl ?_
    refine sw_S (M' := MX5_isNoRow) (d' := d - 1) (bc' := 0) (bs' := 0) (as := [_]) dX5_insert_2 w_1267 ok_X5_isNoRow (q_isNoRow (by omega)) (by omega) (Nat.le_of_ble_eq_true rfl) (Nat.zero_le _) (Nat.zero_le _) (fun E h' n' _ z => det_x z) (det_k ?_)
    rw [show nrB (nI k) = false from nrB_k hk qk]
    show SW _ _ _ _ _ _ _ (.int 0 :: _) _ _ _
    refine sw_if_ne (pc' := 8) (tgt := 22) rfl dX5_insert_5 (by decide +kernel) (fun c5 => ?_) (fun c5 => ?_)
    · exact absurd c5 (by decide +kernel)
    · refine sw_iload_n (pc' := 9) rfl dX5_insert_8 rfl ?_
      refine sw_iconst (pc' := 10) (v := 0) rfl dX5_insert_9 (by decide +kernel) ?_
      refine sw_aload_n (pc' := 11) rfl dX5_insert_10 rfl ?_
      refine sw_getf (ci := 6) (k := 4) (pc' := 14) rfl dX5_insert_11 (by decide +kernel) w_1117 hM.ob rfl ?_
      refine sw_iload_n (pc' := 15) rfl dX5_insert_14 rfl ?_
      refine sw_iald (j := k) (pc' := 16) rfl dX5_insert_15 hM.sz rfl (by omega) (by decide +kernel) ?_
      refine sw_S (M' := MX5_isIn) (d' := d - 1) (bc' := 0) (bs' := 0) (as := [_, _, _]) dX5_insert_16 w_1168 ok_X5_isIn (q_isIn) (by omega) (Nat.le_of_ble_eq_true rfl) (Nat.zero_le _) (Nat.zero_le _) (fun E h' n' _ z => det_x z) (det_k ?_)
      rw [show inB p 0 (nI (σ.2.1 k)) = false from no_x (N := σ.2.1 k) (by omega) qP]
      show SW _ _ _ _ _ _ _ (.int 0 :: _) _ _ _
      refine sw_if_ne (pc' := 22) (tgt := 26) rfl dX5_insert_19 (by decide +kernel) (fun c19 => ?_) (fun c19 => ?_)
      · exact absurd c19 (by decide +kernel)
      · refine sw_iconst (pc' := 23) (v := 1) rfl dX5_insert_22 (by decide +kernel) ?_
        refine sw_goto (tgt := 27) dX5_insert_23 (by decide +kernel) ?_
        refine sw_iload_n (pc' := 28) rfl dX5_insert_27 rfl ?_
        refine sw_S (M' := MX5_isNoThing) (d' := d - 1) (bc' := 0) (bs' := 0) (as := [_]) dX5_insert_28 w_1171 ok_X5_isNoThing (q_isNoThing (by omega)) (by omega) (Nat.le_of_ble_eq_true rfl) (Nat.zero_le _) (Nat.zero_le _) (fun E h' n' _ z => det_x z) (det_k ?_)
        refine sw_iload_n (pc' := 32) rfl dX5_insert_31 rfl ?_
        refine sw_S (M' := MX5_isNoRow) (d' := d - 1) (bc' := 0) (bs' := 0) (as := [_]) dX5_insert_32 w_1267 ok_X5_isNoRow (q_isNoRow (by omega)) (by omega) (Nat.le_of_ble_eq_true rfl) (Nat.zero_le _) (Nat.zero_le _) (fun E h' n' _ z => det_x z) (det_k ?_)
        rw [show nrB (nI k) = false from nrB_k hk qk]
        show SW _ _ _ _ _ _ _ (.int 0 :: _) _ _ _
        refine sw_if_ne (pc' := 38) (tgt := 53) rfl dX5_insert_35 (by decide +kernel) (fun c35 => ?_) (fun c35 => ?_)
        · exact absurd c35 (by decide +kernel)
        · refine sw_aload_n (pc' := 39) rfl dX5_insert_38 rfl ?_
          refine sw_getf (ci := 6) (k := 4) (pc' := 42) rfl dX5_insert_39 (by decide +kernel) w_1117 hM.ob rfl ?_
          refine sw_iload_n (pc' := 43) rfl dX5_insert_42 rfl ?_
          refine sw_iald (j := k) (pc' := 44) rfl dX5_insert_43 hM.sz rfl (by omega) (by decide +kernel) ?_
          refine sw_bipush (pc' := 46) (v := 12) rfl dX5_insert_44 (by decide +kernel) ?_
          refine sw_icmp_ne (pc' := 49) (tgt := 53) rfl dX5_insert_46 (by decide +kernel) (fun c46 => ?_) (fun c46 => ?_)
          · refine sw_iconst (pc' := 54) (v := 0) rfl dX5_insert_53 (by decide +kernel) ?_
            refine sw_V (M' := MX5_isStopped) (d' := d - 1) (bc' := 0) (bs' := 0) (ci := 6) (as := [_, _, _]) dX5_insert_54 w_1174 ok_X5_isStopped (q_isStopped (a := true) (b := (!inB x 0 100)) (c := false) hM hA) hM.ob rfl (by omega) (Nat.le_of_ble_eq_true rfl) (Nat.zero_le _) (Nat.zero_le _) (fun E h' n' _ z => rp_x z) (rp_k (fun p54 p54ρ p54τ p54M p54A p54F => ?_))
            obtain ⟨Gp54, hGp54, eGp54⟩ := p54M.out
            show SW _ _ _ _ _ _ _ (.int 1 :: _) _ _ _
            refine sw_if_eq (pc' := 60) (tgt := 62) rfl dX5_insert_57 (by decide +kernel) (fun c57 => ?_) (fun c57 => ?_)
            · exact absurd c57 (by decide +kernel)
            · refine sw_iconst (pc' := 61) (v := 0) rfl dX5_insert_60 (by decide +kernel) ?_
              refine sw_ret (v := some _) ⟨dX5_insert_61, _, rfl, rfl⟩ ?_
              rw [opInsert, onRw_k hk qk, if_pos (by rw [nI_1]; exact qP)]
              exact pm_x tc_1 p54M p54A p54F (Nat.le_refl _)
          · refine sw_iconst (pc' := 50) (v := 1) rfl dX5_insert_49 (by decide +kernel) ?_
            refine sw_goto (tgt := 54) dX5_insert_50 (by decide +kernel) ?_
            refine sw_V (M' := MX5_isStopped) (d' := d - 1) (bc' := 0) (bs' := 0) (ci := 6) (as := [_, _, _]) dX5_insert_54 w_1174 ok_X5_isStopped (q_isStopped (a := true) (b := (!inB x 0 100)) (c := true) hM hA) hM.ob rfl (by omega) (Nat.le_of_ble_eq_true rfl) (Nat.zero_le _) (Nat.zero_le _) (fun E h' n' _ z => rp_x z) (rp_k (fun p54 p54ρ p54τ p54M p54A p54F => ?_))
            obtain ⟨Gp54, hGp54, eGp54⟩ := p54M.out
            show SW _ _ _ _ _ _ _ (.int 1 :: _) _ _ _
            refine sw_if_eq (pc' := 60) (tgt := 62) rfl dX5_insert_57 (by decide +kernel) (fun c57 => ?_) (fun c57 => ?_)
            · exact absurd c57 (by decide +kernel)
            · refine sw_iconst (pc' := 61) (v := 0) rfl dX5_insert_60 (by decide +kernel) ?_
              refine sw_ret (v := some _) ⟨dX5_insert_61, _, rfl, rfl⟩ ?_
              rw [opInsert, onRw_k hk qk, if_pos (by rw [nI_1]; exact qP)]
              exact pm_x tc_1 p54M p54A p54F (Nat.le_refl _)
  rcases Classical.em (x < 0 ∨ 100 < x) with qx | qx
  · refine sw_aload_n (pc' := 1) rfl dX5_insert_0 rfl ?_
    refine sw_iload_n (pc' := 2) rfl dX5_insert_1 rfl ?_
    refine sw_S (M' := MX5_isNoRow) (d' := d - 1) (bc' := 0) (bs' := 0) (as := [_]) dX5_insert_2 w_1267 ok_X5_isNoRow (q_isNoRow (by omega)) (by omega) (Nat.le_of_ble_eq_true rfl) (Nat.zero_le _) (Nat.zero_le _) (fun E h' n' _ z => det_x z) (det_k ?_)
    rw [show nrB (nI k) = false from nrB_k hk qk]
    show SW _ _ _ _ _ _ _ (.int 0 :: _) _ _ _
    refine sw_if_ne (pc' := 8) (tgt := 22) rfl dX5_insert_5 (by decide +kernel) (fun c5 => ?_) (fun c5 => ?_)
    · exact absurd c5 (by decide +kernel)
    · refine sw_iload_n (pc' := 9) rfl dX5_insert_8 rfl ?_
      refine sw_iconst (pc' := 10) (v := 0) rfl dX5_insert_9 (by decide +kernel) ?_
      refine sw_aload_n (pc' := 11) rfl dX5_insert_10 rfl ?_
      refine sw_getf (ci := 6) (k := 4) (pc' := 14) rfl dX5_insert_11 (by decide +kernel) w_1117 hM.ob rfl ?_
      refine sw_iload_n (pc' := 15) rfl dX5_insert_14 rfl ?_
      refine sw_iald (j := k) (pc' := 16) rfl dX5_insert_15 hM.sz rfl (by omega) (by decide +kernel) ?_
      refine sw_S (M' := MX5_isIn) (d' := d - 1) (bc' := 0) (bs' := 0) (as := [_, _, _]) dX5_insert_16 w_1168 ok_X5_isIn (q_isIn) (by omega) (Nat.le_of_ble_eq_true rfl) (Nat.zero_le _) (Nat.zero_le _) (fun E h' n' _ z => det_x z) (det_k ?_)
      rw [show inB (nI P) 0 (nI (σ.2.1 k)) = true from inB_k (N := σ.2.1 k) (by omega) (by omega)]
      show SW _ _ _ _ _ _ _ (.int 1 :: _) _ _ _
      refine sw_if_ne (pc' := 22) (tgt := 26) rfl dX5_insert_19 (by decide +kernel) (fun c19 => ?_) (fun c19 => ?_)
      · refine sw_iconst (pc' := 27) (v := 0) rfl dX5_insert_26 (by decide +kernel) ?_
        refine sw_iload_n (pc' := 28) rfl dX5_insert_27 rfl ?_
        refine sw_S (M' := MX5_isNoThing) (d' := d - 1) (bc' := 0) (bs' := 0) (as := [_]) dX5_insert_28 w_1171 ok_X5_isNoThing (q_isNoThing (by omega)) (by omega) (Nat.le_of_ble_eq_true rfl) (Nat.zero_le _) (Nat.zero_le _) (fun E h' n' _ z => det_x z) (det_k ?_)
        rw [show inB x 0 100 = false from inB_x qx]
        show SW _ _ _ _ _ _ _ (.int 1 :: _) _ _ _
        refine sw_iload_n (pc' := 32) rfl dX5_insert_31 rfl ?_
        refine sw_S (M' := MX5_isNoRow) (d' := d - 1) (bc' := 0) (bs' := 0) (as := [_]) dX5_insert_32 w_1267 ok_X5_isNoRow (q_isNoRow (by omega)) (by omega) (Nat.le_of_ble_eq_true rfl) (Nat.zero_le _) (Nat.zero_le _) (fun E h' n' _ z => det_x z) (det_k ?_)
        rw [show nrB (nI k) = false from nrB_k hk qk]
        show SW _ _ _ _ _ _ _ (.int 0 :: _) _ _ _
        refine sw_if_ne (pc' := 38) (tgt := 53) rfl dX5_insert_35 (by decide +kernel) (fun c35 => ?_) (fun c35 => ?_)
        · exact absurd c35 (by decide +kernel)
        · refine sw_aload_n (pc' := 39) rfl dX5_insert_38 rfl ?_
          refine sw_getf (ci := 6) (k := 4) (pc' := 42) rfl dX5_insert_39 (by decide +kernel) w_1117 hM.ob rfl ?_
          refine sw_iload_n (pc' := 43) rfl dX5_insert_42 rfl ?_
          refine sw_iald (j := k) (pc' := 44) rfl dX5_insert_43 hM.sz rfl (by omega) (by decide +kernel) ?_
          refine sw_bipush (pc' := 46) (v := 12) rfl dX5_insert_44 (by decide +kernel) ?_
          refine sw_icmp_ne (pc' := 49) (tgt := 53) rfl dX5_insert_46 (by decide +kernel) (fun c46 => ?_) (fun c46 => ?_)
          · refine sw_iconst (pc' := 54) (v := 0) rfl dX5_insert_53 (by decide +kernel) ?_
            refine sw_V (M' := MX5_isStopped) (d' := d - 1) (bc' := 0) (bs' := 0) (ci := 6) (as := [_, _, _]) dX5_insert_54 w_1174 ok_X5_isStopped (q_isStopped (a := false) (b := true) (c := false) hM hA) hM.ob rfl (by omega) (Nat.le_of_ble_eq_true rfl) (Nat.zero_le _) (Nat.zero_le _) (fun E h' n' _ z => rp_x z) (rp_k (fun p54 p54ρ p54τ p54M p54A p54F => ?_))
            obtain ⟨Gp54, hGp54, eGp54⟩ := p54M.out
            show SW _ _ _ _ _ _ _ (.int 1 :: _) _ _ _
            refine sw_if_eq (pc' := 60) (tgt := 62) rfl dX5_insert_57 (by decide +kernel) (fun c57 => ?_) (fun c57 => ?_)
            · exact absurd c57 (by decide +kernel)
            · refine sw_iconst (pc' := 61) (v := 0) rfl dX5_insert_60 (by decide +kernel) ?_
              refine sw_ret (v := some _) ⟨dX5_insert_61, _, rfl, rfl⟩ ?_
              rw [opInsert, onRw_k hk qk, if_neg (by rw [nI_1]; exact nok (by omega) hP), nI_clamp (n := P) (by omega), if_pos qx]
              exact pm_x (tc_2 sAI) p54M p54A p54F (Nat.le_refl _)
          · refine sw_iconst (pc' := 50) (v := 1) rfl dX5_insert_49 (by decide +kernel) ?_
            refine sw_goto (tgt := 54) dX5_insert_50 (by decide +kernel) ?_
            refine sw_V (M' := MX5_isStopped) (d' := d - 1) (bc' := 0) (bs' := 0) (ci := 6) (as := [_, _, _]) dX5_insert_54 w_1174 ok_X5_isStopped (q_isStopped (a := false) (b := true) (c := true) hM hA) hM.ob rfl (by omega) (Nat.le_of_ble_eq_true rfl) (Nat.zero_le _) (Nat.zero_le _) (fun E h' n' _ z => rp_x z) (rp_k (fun p54 p54ρ p54τ p54M p54A p54F => ?_))
            obtain ⟨Gp54, hGp54, eGp54⟩ := p54M.out
            show SW _ _ _ _ _ _ _ (.int 1 :: _) _ _ _
            refine sw_if_eq (pc' := 60) (tgt := 62) rfl dX5_insert_57 (by decide +kernel) (fun c57 => ?_) (fun c57 => ?_)
            · exact absurd c57 (by decide +kernel)
            · refine sw_iconst (pc' := 61) (v := 0) rfl dX5_insert_60 (by decide +kernel) ?_
              refine sw_ret (v := some _) ⟨dX5_insert_61, _, rfl, rfl⟩ ?_
              rw [opInsert, onRw_k hk qk, if_neg (by rw [nI_1]; exact nok (by omega) hP), nI_clamp (n := P) (by omega), if_pos qx]
              exact pm_x (tc_2 sAI) p54M p54A p54F (Nat.le_refl _)
      · exact absurd c19 (by decide +kernel)
  rcases Classical.em (12 < nI (σ.2.1 k) + 1) with qr | qr
  · refine sw_aload_n (pc' := 1) rfl dX5_insert_0 rfl ?_
    refine sw_iload_n (pc' := 2) rfl dX5_insert_1 rfl ?_
    refine sw_S (M' := MX5_isNoRow) (d' := d - 1) (bc' := 0) (bs' := 0) (as := [_]) dX5_insert_2 w_1267 ok_X5_isNoRow (q_isNoRow (by omega)) (by omega) (Nat.le_of_ble_eq_true rfl) (Nat.zero_le _) (Nat.zero_le _) (fun E h' n' _ z => det_x z) (det_k ?_)
    rw [show nrB (nI k) = false from nrB_k hk qk]
    show SW _ _ _ _ _ _ _ (.int 0 :: _) _ _ _
    refine sw_if_ne (pc' := 8) (tgt := 22) rfl dX5_insert_5 (by decide +kernel) (fun c5 => ?_) (fun c5 => ?_)
    · exact absurd c5 (by decide +kernel)
    · refine sw_iload_n (pc' := 9) rfl dX5_insert_8 rfl ?_
      refine sw_iconst (pc' := 10) (v := 0) rfl dX5_insert_9 (by decide +kernel) ?_
      refine sw_aload_n (pc' := 11) rfl dX5_insert_10 rfl ?_
      refine sw_getf (ci := 6) (k := 4) (pc' := 14) rfl dX5_insert_11 (by decide +kernel) w_1117 hM.ob rfl ?_
      refine sw_iload_n (pc' := 15) rfl dX5_insert_14 rfl ?_
      refine sw_iald (j := k) (pc' := 16) rfl dX5_insert_15 hM.sz rfl (by omega) (by decide +kernel) ?_
      refine sw_S (M' := MX5_isIn) (d' := d - 1) (bc' := 0) (bs' := 0) (as := [_, _, _]) dX5_insert_16 w_1168 ok_X5_isIn (q_isIn) (by omega) (Nat.le_of_ble_eq_true rfl) (Nat.zero_le _) (Nat.zero_le _) (fun E h' n' _ z => det_x z) (det_k ?_)
      rw [show inB (nI P) 0 (nI (σ.2.1 k)) = true from inB_k (N := σ.2.1 k) (by omega) (by omega)]
      show SW _ _ _ _ _ _ _ (.int 1 :: _) _ _ _
      refine sw_if_ne (pc' := 22) (tgt := 26) rfl dX5_insert_19 (by decide +kernel) (fun c19 => ?_) (fun c19 => ?_)
      · refine sw_iconst (pc' := 27) (v := 0) rfl dX5_insert_26 (by decide +kernel) ?_
        refine sw_iload_n (pc' := 28) rfl dX5_insert_27 rfl ?_
        refine sw_S (M' := MX5_isNoThing) (d' := d - 1) (bc' := 0) (bs' := 0) (as := [_]) dX5_insert_28 w_1171 ok_X5_isNoThing (q_isNoThing (by omega)) (by omega) (Nat.le_of_ble_eq_true rfl) (Nat.zero_le _) (Nat.zero_le _) (fun E h' n' _ z => det_x z) (det_k ?_)
        rw [show inB x 0 100 = true from inB_n qx]
        show SW _ _ _ _ _ _ _ (.int 0 :: _) _ _ _
        refine sw_iload_n (pc' := 32) rfl dX5_insert_31 rfl ?_
        refine sw_S (M' := MX5_isNoRow) (d' := d - 1) (bc' := 0) (bs' := 0) (as := [_]) dX5_insert_32 w_1267 ok_X5_isNoRow (q_isNoRow (by omega)) (by omega) (Nat.le_of_ble_eq_true rfl) (Nat.zero_le _) (Nat.zero_le _) (fun E h' n' _ z => det_x z) (det_k ?_)
        rw [show nrB (nI k) = false from nrB_k hk qk]
        show SW _ _ _ _ _ _ _ (.int 0 :: _) _ _ _
        refine sw_if_ne (pc' := 38) (tgt := 53) rfl dX5_insert_35 (by decide +kernel) (fun c35 => ?_) (fun c35 => ?_)
        · exact absurd c35 (by decide +kernel)
        · refine sw_aload_n (pc' := 39) rfl dX5_insert_38 rfl ?_
          refine sw_getf (ci := 6) (k := 4) (pc' := 42) rfl dX5_insert_39 (by decide +kernel) w_1117 hM.ob rfl ?_
          refine sw_iload_n (pc' := 43) rfl dX5_insert_42 rfl ?_
          refine sw_iald (j := k) (pc' := 44) rfl dX5_insert_43 hM.sz rfl (by omega) (by decide +kernel) ?_
          refine sw_bipush (pc' := 46) (v := 12) rfl dX5_insert_44 (by decide +kernel) ?_
          refine sw_icmp_ne (pc' := 49) (tgt := 53) rfl dX5_insert_46 (by decide +kernel) (fun c46 => ?_) (fun c46 => ?_)
          · exact absurd ((nI12 (hI.1 k hk)).mpr (full (hI.1 k hk) qr)) c46
          · refine sw_iconst (pc' := 50) (v := 1) rfl dX5_insert_49 (by decide +kernel) ?_
            refine sw_goto (tgt := 54) dX5_insert_50 (by decide +kernel) ?_
            refine sw_V (M' := MX5_isStopped) (d' := d - 1) (bc' := 0) (bs' := 0) (ci := 6) (as := [_, _, _]) dX5_insert_54 w_1174 ok_X5_isStopped (q_isStopped (a := false) (b := false) (c := true) hM hA) hM.ob rfl (by omega) (Nat.le_of_ble_eq_true rfl) (Nat.zero_le _) (Nat.zero_le _) (fun E h' n' _ z => rp_x z) (rp_k (fun p54 p54ρ p54τ p54M p54A p54F => ?_))
            obtain ⟨Gp54, hGp54, eGp54⟩ := p54M.out
            show SW _ _ _ _ _ _ _ (.int 1 :: _) _ _ _
            refine sw_if_eq (pc' := 60) (tgt := 62) rfl dX5_insert_57 (by decide +kernel) (fun c57 => ?_) (fun c57 => ?_)
            · exact absurd c57 (by decide +kernel)
            · refine sw_iconst (pc' := 61) (v := 0) rfl dX5_insert_60 (by decide +kernel) ?_
              refine sw_ret (v := some _) ⟨dX5_insert_61, _, rfl, rfl⟩ ?_
              rw [opInsert, onRw_k hk qk, if_neg (by rw [nI_1]; exact nok (by omega) hP), nI_clamp (n := P) (by omega), if_neg qx, if_pos qr]
              exact pm_x (tc_3 sSI sSA) p54M p54A p54F (Nat.le_refl _)
      · exact absurd c19 (by decide +kernel)
  have hroom : σ.2.1 k < 12 := full_n (hI.1 k hk) qr
  refine sw_aload_n (pc' := 1) rfl dX5_insert_0 rfl ?_
  refine sw_iload_n (pc' := 2) rfl dX5_insert_1 rfl ?_
  refine sw_S (M' := MX5_isNoRow) (d' := d - 1) (bc' := 0) (bs' := 0) (as := [_]) dX5_insert_2 w_1267 ok_X5_isNoRow (q_isNoRow (by omega)) (by omega) (Nat.le_of_ble_eq_true rfl) (Nat.zero_le _) (Nat.zero_le _) (fun E h' n' _ z => det_x z) (det_k ?_)
  rw [show nrB (nI k) = false from nrB_k hk qk]
  show SW _ _ _ _ _ _ _ (.int 0 :: _) _ _ _
  refine sw_if_ne (pc' := 8) (tgt := 22) rfl dX5_insert_5 (by decide +kernel) (fun c5 => ?_) (fun c5 => ?_)
  · exact absurd c5 (by decide +kernel)
  · refine sw_iload_n (pc' := 9) rfl dX5_insert_8 rfl ?_
    refine sw_iconst (pc' := 10) (v := 0) rfl dX5_insert_9 (by decide +kernel) ?_
    refine sw_aload_n (pc' := 11) rfl dX5_insert_10 rfl ?_
    refine sw_getf (ci := 6) (k := 4) (pc' := 14) rfl dX5_insert_11 (by decide +kernel) w_1117 hM.ob rfl ?_
    refine sw_iload_n (pc' := 15) rfl dX5_insert_14 rfl ?_
    refine sw_iald (j := k) (pc' := 16) rfl dX5_insert_15 hM.sz rfl (by omega) (by decide +kernel) ?_
    refine sw_S (M' := MX5_isIn) (d' := d - 1) (bc' := 0) (bs' := 0) (as := [_, _, _]) dX5_insert_16 w_1168 ok_X5_isIn (q_isIn) (by omega) (Nat.le_of_ble_eq_true rfl) (Nat.zero_le _) (Nat.zero_le _) (fun E h' n' _ z => det_x z) (det_k ?_)
    rw [show inB (nI P) 0 (nI (σ.2.1 k)) = true from inB_k (N := σ.2.1 k) (by omega) (by omega)]
    show SW _ _ _ _ _ _ _ (.int 1 :: _) _ _ _
    refine sw_if_ne (pc' := 22) (tgt := 26) rfl dX5_insert_19 (by decide +kernel) (fun c19 => ?_) (fun c19 => ?_)
    · refine sw_iconst (pc' := 27) (v := 0) rfl dX5_insert_26 (by decide +kernel) ?_
      refine sw_iload_n (pc' := 28) rfl dX5_insert_27 rfl ?_
      refine sw_S (M' := MX5_isNoThing) (d' := d - 1) (bc' := 0) (bs' := 0) (as := [_]) dX5_insert_28 w_1171 ok_X5_isNoThing (q_isNoThing (by omega)) (by omega) (Nat.le_of_ble_eq_true rfl) (Nat.zero_le _) (Nat.zero_le _) (fun E h' n' _ z => det_x z) (det_k ?_)
      rw [show inB x 0 100 = true from inB_n qx]
      show SW _ _ _ _ _ _ _ (.int 0 :: _) _ _ _
      refine sw_iload_n (pc' := 32) rfl dX5_insert_31 rfl ?_
      refine sw_S (M' := MX5_isNoRow) (d' := d - 1) (bc' := 0) (bs' := 0) (as := [_]) dX5_insert_32 w_1267 ok_X5_isNoRow (q_isNoRow (by omega)) (by omega) (Nat.le_of_ble_eq_true rfl) (Nat.zero_le _) (Nat.zero_le _) (fun E h' n' _ z => det_x z) (det_k ?_)
      rw [show nrB (nI k) = false from nrB_k hk qk]
      show SW _ _ _ _ _ _ _ (.int 0 :: _) _ _ _
      refine sw_if_ne (pc' := 38) (tgt := 53) rfl dX5_insert_35 (by decide +kernel) (fun c35 => ?_) (fun c35 => ?_)
      · exact absurd c35 (by decide +kernel)
      · refine sw_aload_n (pc' := 39) rfl dX5_insert_38 rfl ?_
        refine sw_getf (ci := 6) (k := 4) (pc' := 42) rfl dX5_insert_39 (by decide +kernel) w_1117 hM.ob rfl ?_
        refine sw_iload_n (pc' := 43) rfl dX5_insert_42 rfl ?_
        refine sw_iald (j := k) (pc' := 44) rfl dX5_insert_43 hM.sz rfl (by omega) (by decide +kernel) ?_
        refine sw_bipush (pc' := 46) (v := 12) rfl dX5_insert_44 (by decide +kernel) ?_
        refine sw_icmp_ne (pc' := 49) (tgt := 53) rfl dX5_insert_46 (by decide +kernel) (fun c46 => ?_) (fun c46 => ?_)
        · refine sw_iconst (pc' := 54) (v := 0) rfl dX5_insert_53 (by decide +kernel) ?_
          refine sw_V (M' := MX5_isStopped) (d' := d - 1) (bc' := 0) (bs' := 0) (ci := 6) (as := [_, _, _]) dX5_insert_54 w_1174 ok_X5_isStopped (q_isStopped (a := false) (b := false) (c := false) hM hA) hM.ob rfl (by omega) (Nat.le_of_ble_eq_true rfl) (Nat.zero_le _) (Nat.zero_le _) (fun E h' n' _ z => rp_x z) (rp_k (fun p54 p54ρ p54τ p54M p54A p54F => ?_))
          obtain ⟨Gp54, hGp54, eGp54⟩ := p54M.out
          show SW _ _ _ _ _ _ _ (.int 0 :: _) _ _ _
          refine sw_if_eq (pc' := 60) (tgt := 62) rfl dX5_insert_57 (by decide +kernel) (fun c57 => ?_) (fun c57 => ?_)
          · refine sw_aload_n (pc' := 63) rfl dX5_insert_62 rfl ?_
            refine sw_iload_n (pc' := 64) rfl dX5_insert_63 rfl ?_
            refine sw_iload_n (pc' := 65) rfl dX5_insert_64 rfl ?_
            refine sw_iload_n (pc' := 66) rfl dX5_insert_65 rfl ?_
            refine sw_V (M' := MX5_comeAt) (d' := d - 1) (bc' := 0) (bs' := 0) (ci := 6) (as := [_, _, _]) dX5_insert_66 w_1199 ok_X5_comeAt (q_comeAt p54M p54A (k := k) (p := P) (by omega) (by omega) (by omega)) p54M.ob rfl (by omega) (Nat.le_of_ble_eq_true rfl) (Nat.zero_le _) (Nat.zero_le _) (fun E h' n' _ z => rp_x z) (rp_k (fun p66 p66ρ p66τ p66M p66A p66F => ?_))
            obtain ⟨Gp66, hGp66, eGp66⟩ := p66M.out
            refine sw_aload_n (pc' := 70) rfl dX5_insert_69 rfl ?_
            refine sw_getf (ci := 6) (k := 4) (pc' := 73) rfl dX5_insert_70 (by decide +kernel) w_1117 p66M.ob rfl ?_
            refine sw_iload_n (pc' := 74) rfl dX5_insert_73 rfl ?_
            refine sw_iald (j := k) (pc' := 75) rfl dX5_insert_74 p66M.sz rfl (by omega) (by decide +kernel) ?_
            rw [show (la2 σ k P x).2.1 k = σ.2.1 k + 1 from up_s]
            refine sw_ret (v := some _) ⟨dX5_insert_75, _, rfl, rfl⟩ ?_
            rw [opInsert, onRw_k hk qk, if_neg (by rw [nI_1]; exact nok (by omega) hP), nI_clamp (n := P) (by omega), if_neg qx, if_neg qr]
            exact pm_k p66M p66A (p54F.tr p66F (Nat.le_refl _)) (Nat.le_refl _)
          · exact absurd c57 (by decide +kernel)
        · exact absurd ((nI12 (hI.1 k hk)).mp c46) (by have := full_n (hI.1 k hk) qr; omega)
    · exact absurd c19 (by decide +kernel)
theorem q_swap {h : AH} {d bc bs n : Nat} {σ : CS} {th : Int32} {a p o : Int32} (hR : RMo h σ th) (hI : Iv σ) (hn : 159 ≤ n) (hd : 8 ≤ d) (h1 : 1 ≤ bc) (h2 : 12 ≤ bs)  : SM SR0 MX5_swap d bc bs [.ref 135, .int a, .int p, .int o] h n (PM h n (tc sI sI) (opSwap σ a p o)) := by
  obtain ⟨ρ, τ, hM, hA⟩ := hR
  obtain ⟨G0, hG0, eG0⟩ := hM.out
  refine sm_of pn_OverwalksModel rfl (Nat.le_of_ble_eq_true rfl) ?_
  rcases idxN 11 (by decide +kernel) a with qk1 | ⟨k, hk, rfl⟩
  · refine sw_aload_n (pc' := 1) rfl dX5_swap_0 rfl ?_
    refine sw_aload_n (pc' := 2) rfl dX5_swap_1 rfl ?_
    refine sw_iload_n (pc' := 3) rfl dX5_swap_2 rfl ?_
    refine sw_iload_n (pc' := 4) rfl dX5_swap_3 rfl ?_
    refine sw_V (M' := MX5_isNoPlace) (d' := d - 1) (bc' := 0) (bs' := 0) (ci := 6) (as := [_, _]) dX5_swap_4 w_1263 ok_X5_isNoPlace (q_isNoPlace hM (by omega)) hM.ob rfl (by omega) (Nat.le_of_ble_eq_true rfl) (Nat.zero_le _) (Nat.zero_le _) (fun E h' n' _ z => det_x z) (det_k ?_)
    rw [show npB σ a p = true from np_r (nrB_x qk1)]
    show SW _ _ _ _ _ _ _ (.int 1 :: _) _ _ _
    refine sw_if_ne (pc' := 10) (tgt := 19) rfl dX5_swap_7 (by decide +kernel) (fun c7 => ?_) (fun c7 => ?_)
    · refine sw_iconst (pc' := 20) (v := 1) rfl dX5_swap_19 (by decide +kernel) ?_
      refine sw_goto (tgt := 24) dX5_swap_20 (by decide +kernel) ?_
      refine sw_V (M' := MX5_isStopped__) (d' := d - 1) (bc' := 0) (bs' := 0) (ci := 6) (as := [_]) dX5_swap_24 w_1235 ok_X5_isStopped__ (q_isStopped1 (a := true) hM hA (by omega)) hM.ob rfl (by omega) (Nat.le_of_ble_eq_true rfl) (Nat.zero_le _) (Nat.zero_le _) (fun E h' n' _ z => rp_x z) (rp_k (fun p24 p24ρ p24τ p24M p24A p24F => ?_))
      obtain ⟨Gp24, hGp24, eGp24⟩ := p24M.out
      show SW _ _ _ _ _ _ _ (.int 1 :: _) _ _ _
      refine sw_if_eq (pc' := 30) (tgt := 32) rfl dX5_swap_27 (by decide +kernel) (fun c27 => ?_) (fun c27 => ?_)
      · exact absurd c27 (by decide +kernel)
      · refine sw_iconst (pc' := 31) (v := 0) rfl dX5_swap_30 (by decide +kernel) ?_
        refine sw_ret (v := some _) ⟨dX5_swap_31, _, rfl, rfl⟩ ?_
        rw [opSwap, onRw_x qk1]
        exact pm_x tc_1 p24M p24A p24F (Nat.le_refl _)
    · exact absurd c7 (by decide +kernel)
  rcases Classical.em (kP (kdO k) = false) with qk | qk
  · refine sw_aload_n (pc' := 1) rfl dX5_swap_0 rfl ?_
    refine sw_aload_n (pc' := 2) rfl dX5_swap_1 rfl ?_
    refine sw_iload_n (pc' := 3) rfl dX5_swap_2 rfl ?_
    refine sw_iload_n (pc' := 4) rfl dX5_swap_3 rfl ?_
    refine sw_V (M' := MX5_isNoPlace) (d' := d - 1) (bc' := 0) (bs' := 0) (ci := 6) (as := [_, _]) dX5_swap_4 w_1263 ok_X5_isNoPlace (q_isNoPlace hM (by omega)) hM.ob rfl (by omega) (Nat.le_of_ble_eq_true rfl) (Nat.zero_le _) (Nat.zero_le _) (fun E h' n' _ z => det_x z) (det_k ?_)
    rw [show npB σ (nI k) p = true from np_r (nrB_y hk qk)]
    show SW _ _ _ _ _ _ _ (.int 1 :: _) _ _ _
    refine sw_if_ne (pc' := 10) (tgt := 19) rfl dX5_swap_7 (by decide +kernel) (fun c7 => ?_) (fun c7 => ?_)
    · refine sw_iconst (pc' := 20) (v := 1) rfl dX5_swap_19 (by decide +kernel) ?_
      refine sw_goto (tgt := 24) dX5_swap_20 (by decide +kernel) ?_
      refine sw_V (M' := MX5_isStopped__) (d' := d - 1) (bc' := 0) (bs' := 0) (ci := 6) (as := [_]) dX5_swap_24 w_1235 ok_X5_isStopped__ (q_isStopped1 (a := true) hM hA (by omega)) hM.ob rfl (by omega) (Nat.le_of_ble_eq_true rfl) (Nat.zero_le _) (Nat.zero_le _) (fun E h' n' _ z => rp_x z) (rp_k (fun p24 p24ρ p24τ p24M p24A p24F => ?_))
      obtain ⟨Gp24, hGp24, eGp24⟩ := p24M.out
      show SW _ _ _ _ _ _ _ (.int 1 :: _) _ _ _
      refine sw_if_eq (pc' := 30) (tgt := 32) rfl dX5_swap_27 (by decide +kernel) (fun c27 => ?_) (fun c27 => ?_)
      · exact absurd c27 (by decide +kernel)
      · refine sw_iconst (pc' := 31) (v := 0) rfl dX5_swap_30 (by decide +kernel) ?_
        refine sw_ret (v := some _) ⟨dX5_swap_31, _, rfl, rfl⟩ ?_
        rw [opSwap, onRw_y hk qk]
        exact pm_x tc_1 p24M p24A p24F (Nat.le_refl _)
    · exact absurd c7 (by decide +kernel)
  have hck := hI.1 k hk
  rcases idxN (σ.2.1 k) (by omega) p with qP | ⟨P, hP, rfl⟩
  · refine sw_aload_n (pc' := 1) rfl dX5_swap_0 rfl ?_
    refine sw_aload_n (pc' := 2) rfl dX5_swap_1 rfl ?_
    refine sw_iload_n (pc' := 3) rfl dX5_swap_2 rfl ?_
    refine sw_iload_n (pc' := 4) rfl dX5_swap_3 rfl ?_
    refine sw_V (M' := MX5_isNoPlace) (d' := d - 1) (bc' := 0) (bs' := 0) (ci := 6) (as := [_, _]) dX5_swap_4 w_1263 ok_X5_isNoPlace (q_isNoPlace hM (by omega)) hM.ob rfl (by omega) (Nat.le_of_ble_eq_true rfl) (Nat.zero_le _) (Nat.zero_le _) (fun E h' n' _ z => det_x z) (det_k ?_)
    rw [show npB σ (nI k) p = true from np_b (by omega) (by omega) qP]
    show SW _ _ _ _ _ _ _ (.int 1 :: _) _ _ _
    refine sw_if_ne (pc' := 10) (tgt := 19) rfl dX5_swap_7 (by decide +kernel) (fun c7 => ?_) (fun c7 => ?_)
    · refine sw_iconst (pc' := 20) (v := 1) rfl dX5_swap_19 (by decide +kernel) ?_
      refine sw_goto (tgt := 24) dX5_swap_20 (by decide +kernel) ?_
      refine sw_V (M' := MX5_isStopped__) (d' := d - 1) (bc' := 0) (bs' := 0) (ci := 6) (as := [_]) dX5_swap_24 w_1235 ok_X5_isStopped__ (q_isStopped1 (a := true) hM hA (by omega)) hM.ob rfl (by omega) (Nat.le_of_ble_eq_true rfl) (Nat.zero_le _) (Nat.zero_le _) (fun E h' n' _ z => rp_x z) (rp_k (fun p24 p24ρ p24τ p24M p24A p24F => ?_))
      obtain ⟨Gp24, hGp24, eGp24⟩ := p24M.out
      show SW _ _ _ _ _ _ _ (.int 1 :: _) _ _ _
      refine sw_if_eq (pc' := 30) (tgt := 32) rfl dX5_swap_27 (by decide +kernel) (fun c27 => ?_) (fun c27 => ?_)
      · exact absurd c27 (by decide +kernel)
      · refine sw_iconst (pc' := 31) (v := 0) rfl dX5_swap_30 (by decide +kernel) ?_
        refine sw_ret (v := some _) ⟨dX5_swap_31, _, rfl, rfl⟩ ?_
        rw [opSwap, onRw_k hk qk, if_pos qP]
        exact pm_x tc_1 p24M p24A p24F (Nat.le_refl _)
    · exact absurd c7 (by decide +kernel)
  rcases idxN (σ.2.1 k) (by omega) o with qO | ⟨O, hO, rfl⟩
  · refine sw_aload_n (pc' := 1) rfl dX5_swap_0 rfl ?_
    refine sw_aload_n (pc' := 2) rfl dX5_swap_1 rfl ?_
    refine sw_iload_n (pc' := 3) rfl dX5_swap_2 rfl ?_
    refine sw_iload_n (pc' := 4) rfl dX5_swap_3 rfl ?_
    refine sw_V (M' := MX5_isNoPlace) (d' := d - 1) (bc' := 0) (bs' := 0) (ci := 6) (as := [_, _]) dX5_swap_4 w_1263 ok_X5_isNoPlace (q_isNoPlace hM (by omega)) hM.ob rfl (by omega) (Nat.le_of_ble_eq_true rfl) (Nat.zero_le _) (Nat.zero_le _) (fun E h' n' _ z => det_x z) (det_k ?_)
    rw [show npB σ (nI k) (nI P) = false from np_k (by omega) (nrB_k hk qk) (by omega) hP]
    show SW _ _ _ _ _ _ _ (.int 0 :: _) _ _ _
    refine sw_if_ne (pc' := 10) (tgt := 19) rfl dX5_swap_7 (by decide +kernel) (fun c7 => ?_) (fun c7 => ?_)
    · exact absurd c7 (by decide +kernel)
    · refine sw_aload_n (pc' := 11) rfl dX5_swap_10 rfl ?_
      refine sw_iload_n (pc' := 12) rfl dX5_swap_11 rfl ?_
      refine sw_iload_n (pc' := 13) rfl dX5_swap_12 rfl ?_
      refine sw_V (M' := MX5_isNoPlace) (d' := d - 1) (bc' := 0) (bs' := 0) (ci := 6) (as := [_, _]) dX5_swap_13 w_1263 ok_X5_isNoPlace (q_isNoPlace hM (by omega)) hM.ob rfl (by omega) (Nat.le_of_ble_eq_true rfl) (Nat.zero_le _) (Nat.zero_le _) (fun E h' n' _ z => det_x z) (det_k ?_)
      rw [show npB σ (nI k) o = true from np_b (by omega) (by omega) qO]
      show SW _ _ _ _ _ _ _ (.int 1 :: _) _ _ _
      refine sw_if_eq (pc' := 19) (tgt := 23) rfl dX5_swap_16 (by decide +kernel) (fun c16 => ?_) (fun c16 => ?_)
      · exact absurd c16 (by decide +kernel)
      · refine sw_iconst (pc' := 20) (v := 1) rfl dX5_swap_19 (by decide +kernel) ?_
        refine sw_goto (tgt := 24) dX5_swap_20 (by decide +kernel) ?_
        refine sw_V (M' := MX5_isStopped__) (d' := d - 1) (bc' := 0) (bs' := 0) (ci := 6) (as := [_]) dX5_swap_24 w_1235 ok_X5_isStopped__ (q_isStopped1 (a := true) hM hA (by omega)) hM.ob rfl (by omega) (Nat.le_of_ble_eq_true rfl) (Nat.zero_le _) (Nat.zero_le _) (fun E h' n' _ z => rp_x z) (rp_k (fun p24 p24ρ p24τ p24M p24A p24F => ?_))
        obtain ⟨Gp24, hGp24, eGp24⟩ := p24M.out
        show SW _ _ _ _ _ _ _ (.int 1 :: _) _ _ _
        refine sw_if_eq (pc' := 30) (tgt := 32) rfl dX5_swap_27 (by decide +kernel) (fun c27 => ?_) (fun c27 => ?_)
        · exact absurd c27 (by decide +kernel)
        · refine sw_iconst (pc' := 31) (v := 0) rfl dX5_swap_30 (by decide +kernel) ?_
          refine sw_ret (v := some _) ⟨dX5_swap_31, _, rfl, rfl⟩ ?_
          rw [opSwap, onRw_k hk qk, if_neg (nok (by omega) hP), nI_clamp (n := P) (by omega), if_pos qO]
          exact pm_x tc_1 p24M p24A p24F (Nat.le_refl _)
  refine sw_aload_n (pc' := 1) rfl dX5_swap_0 rfl ?_
  refine sw_aload_n (pc' := 2) rfl dX5_swap_1 rfl ?_
  refine sw_iload_n (pc' := 3) rfl dX5_swap_2 rfl ?_
  refine sw_iload_n (pc' := 4) rfl dX5_swap_3 rfl ?_
  refine sw_V (M' := MX5_isNoPlace) (d' := d - 1) (bc' := 0) (bs' := 0) (ci := 6) (as := [_, _]) dX5_swap_4 w_1263 ok_X5_isNoPlace (q_isNoPlace hM (by omega)) hM.ob rfl (by omega) (Nat.le_of_ble_eq_true rfl) (Nat.zero_le _) (Nat.zero_le _) (fun E h' n' _ z => det_x z) (det_k ?_)
  rw [show npB σ (nI k) (nI P) = false from np_k (by omega) (nrB_k hk qk) (by omega) hP]
  show SW _ _ _ _ _ _ _ (.int 0 :: _) _ _ _
  refine sw_if_ne (pc' := 10) (tgt := 19) rfl dX5_swap_7 (by decide +kernel) (fun c7 => ?_) (fun c7 => ?_)
  · exact absurd c7 (by decide +kernel)
  · refine sw_aload_n (pc' := 11) rfl dX5_swap_10 rfl ?_
    refine sw_iload_n (pc' := 12) rfl dX5_swap_11 rfl ?_
    refine sw_iload_n (pc' := 13) rfl dX5_swap_12 rfl ?_
    refine sw_V (M' := MX5_isNoPlace) (d' := d - 1) (bc' := 0) (bs' := 0) (ci := 6) (as := [_, _]) dX5_swap_13 w_1263 ok_X5_isNoPlace (q_isNoPlace hM (by omega)) hM.ob rfl (by omega) (Nat.le_of_ble_eq_true rfl) (Nat.zero_le _) (Nat.zero_le _) (fun E h' n' _ z => det_x z) (det_k ?_)
    rw [show npB σ (nI k) (nI O) = false from np_k (by omega) (nrB_k hk qk) (by omega) hO]
    show SW _ _ _ _ _ _ _ (.int 0 :: _) _ _ _
    refine sw_if_eq (pc' := 19) (tgt := 23) rfl dX5_swap_16 (by decide +kernel) (fun c16 => ?_) (fun c16 => ?_)
    · refine sw_iconst (pc' := 24) (v := 0) rfl dX5_swap_23 (by decide +kernel) ?_
      refine sw_V (M' := MX5_isStopped__) (d' := d - 1) (bc' := 0) (bs' := 0) (ci := 6) (as := [_]) dX5_swap_24 w_1235 ok_X5_isStopped__ (q_isStopped1 (a := false) hM hA (by omega)) hM.ob rfl (by omega) (Nat.le_of_ble_eq_true rfl) (Nat.zero_le _) (Nat.zero_le _) (fun E h' n' _ z => rp_x z) (rp_k (fun p24 p24ρ p24τ p24M p24A p24F => ?_))
      obtain ⟨Gp24, hGp24, eGp24⟩ := p24M.out
      show SW _ _ _ _ _ _ _ (.int 0 :: _) _ _ _
      refine sw_if_eq (pc' := 30) (tgt := 32) rfl dX5_swap_27 (by decide +kernel) (fun c27 => ?_) (fun c27 => ?_)
      · refine sw_aload_n (pc' := 33) rfl dX5_swap_32 rfl ?_
        refine sw_getf (ci := 6) (k := 3) (pc' := 36) rfl dX5_swap_33 (by decide +kernel) w_1116 p24M.ob rfl ?_
        refine sw_iload_n (pc' := 37) rfl dX5_swap_36 rfl ?_
        refine sw_aald (j := k) (pc' := 38) rfl dX5_swap_37 hGp24 (by decide +kernel) (by decide +kernel) rfl (by omega) (by decide +kernel) (eGp24 k (by omega)) ?_
        refine sw_iload_n (pc' := 39) rfl dX5_swap_38 rfl ?_
        refine sw_iald (j := P) (pc' := 40) rfl dX5_swap_39 (p24M.row (k := k) (by omega)) rfl (by omega) (by decide +kernel) ?_
        rw [p24A.1 k (by omega) P (by omega)]
        refine sw_istore (pc' := 42) (lv' := [(4, _), (0, _), (1, _), (2, _), (3, _)]) rfl dX5_swap_40 (by decide +kernel) rfl ?_
        refine sw_aload_n (pc' := 43) rfl dX5_swap_42 rfl ?_
        refine sw_getf (ci := 6) (k := 3) (pc' := 46) rfl dX5_swap_43 (by decide +kernel) w_1116 p24M.ob rfl ?_
        refine sw_iload_n (pc' := 47) rfl dX5_swap_46 rfl ?_
        refine sw_aald (j := k) (pc' := 48) rfl dX5_swap_47 hGp24 (by decide +kernel) (by decide +kernel) rfl (by omega) (by decide +kernel) (eGp24 k (by omega)) ?_
        refine sw_iload_n (pc' := 49) rfl dX5_swap_48 rfl ?_
        refine sw_aload_n (pc' := 50) rfl dX5_swap_49 rfl ?_
        refine sw_getf (ci := 6) (k := 3) (pc' := 53) rfl dX5_swap_50 (by decide +kernel) w_1116 p24M.ob rfl ?_
        refine sw_iload_n (pc' := 54) rfl dX5_swap_53 rfl ?_
        refine sw_aald (j := k) (pc' := 55) rfl dX5_swap_54 hGp24 (by decide +kernel) (by decide +kernel) rfl (by omega) (by decide +kernel) (eGp24 k (by omega)) ?_
        refine sw_iload_n (pc' := 56) rfl dX5_swap_55 rfl ?_
        refine sw_iald (j := O) (pc' := 57) rfl dX5_swap_56 (p24M.row (k := k) (by omega)) rfl (by omega) (by decide +kernel) ?_
        rw [p24A.1 k (by omega) O (by omega)]
        refine sw_iast (j := P) (pc' := 58) rfl dX5_swap_57 (p24M.row (k := k) (by omega)) (by show 100 ≤ _; omega) rfl (by omega) (by decide +kernel) ?_
        refine sw_nm (fun g1 eg1 => ?_)
        have zg1 := (congrFun eg1 (137 + k)).trans (up_s (h := p24) (i := (137 + k)))
        refine sw_aload_n (pc' := 59) rfl dX5_swap_58 rfl ?_
        refine sw_getf (ci := 6) (k := 3) (pc' := 62) rfl dX5_swap_59 (by decide +kernel) w_1116 (((congrFun eg1 135).trans (up_n (by omega))).trans p24M.ob) rfl ?_
        refine sw_iload_n (pc' := 63) rfl dX5_swap_62 rfl ?_
        refine sw_aald (j := k) (pc' := 64) rfl dX5_swap_63 (((congrFun eg1 136).trans (up_n (by omega))).trans hGp24) (by decide +kernel) (by decide +kernel) rfl (by omega) (by decide +kernel) (eGp24 k (by omega)) ?_
        refine sw_iload_n (pc' := 65) rfl dX5_swap_64 rfl ?_
        refine sw_iload (pc' := 67) rfl dX5_swap_65 rfl ?_
        refine sw_iast (j := O) (pc' := 68) rfl dX5_swap_67 zg1 (by show 100 ≤ _; omega) rfl (by omega) (by decide +kernel) ?_
        refine sw_nm (fun g2 eg2 => ?_)
        have zg2 := (congrFun eg2 (137 + k)).trans (up_s (h := g1) (i := (137 + k)))
        refine sw_aload_n (pc' := 69) rfl dX5_swap_68 rfl ?_
        refine sw_getf (ci := 6) (k := 12) (pc' := 72) rfl dX5_swap_69 (by decide +kernel) w_1125 (((congrFun eg2 135).trans (up_n (by omega))).trans (((congrFun eg1 135).trans (up_n (by omega))).trans p24M.ob)) rfl ?_
        refine sw_iload_n (pc' := 73) rfl dX5_swap_72 rfl ?_
        refine sw_dup2 (pc' := 74) rfl dX5_swap_73 rfl rfl ?_
        refine sw_iald (j := k) (pc' := 75) rfl dX5_swap_74 (((congrFun eg2 156).trans (up_n (by omega))).trans (((congrFun eg1 156).trans (up_n (by omega))).trans p24M.tu)) rfl (by omega) (by decide +kernel) ?_
        refine sw_iconst (pc' := 76) (v := 1) rfl dX5_swap_75 (by decide +kernel) ?_
        refine sw_iadd (pc' := 77) rfl dX5_swap_76 ?_
        refine sw_iast (j := k) (pc' := 78) rfl dX5_swap_77 (((congrFun eg2 156).trans (up_n (by omega))).trans (((congrFun eg1 156).trans (up_n (by omega))).trans p24M.tu)) (by decide +kernel) rfl (by omega) (by decide +kernel) ?_
        refine sw_nm (fun g3 eg3 => ?_)
        have zg3 := (congrFun eg3 156).trans (up_s (h := g2) (i := 156))
        refine sw_aload_n (pc' := 79) rfl dX5_swap_78 rfl ?_
        refine sw_getf (ci := 6) (k := 3) (pc' := 82) rfl dX5_swap_79 (by decide +kernel) w_1116 (((congrFun eg3 135).trans (up_n (by omega))).trans (((congrFun eg2 135).trans (up_n (by omega))).trans (((congrFun eg1 135).trans (up_n (by omega))).trans p24M.ob))) rfl ?_
        refine sw_iload_n (pc' := 83) rfl dX5_swap_82 rfl ?_
        refine sw_aald (j := k) (pc' := 84) rfl dX5_swap_83 (((congrFun eg3 136).trans (up_n (by omega))).trans (((congrFun eg2 136).trans (up_n (by omega))).trans (((congrFun eg1 136).trans (up_n (by omega))).trans hGp24))) (by decide +kernel) (by decide +kernel) rfl (by omega) (by decide +kernel) (eGp24 k (by omega)) ?_
        refine sw_iload_n (pc' := 85) rfl dX5_swap_84 rfl ?_
        refine sw_iald (j := P) (pc' := 86) rfl dX5_swap_85 (((congrFun eg3 (137 + k)).trans (up_n (by omega))).trans zg2) rfl (by omega) (by decide +kernel) ?_
        rw [sw_v]
        refine sw_ret (v := some _) ⟨dX5_swap_86, _, rfl, rfl⟩ ?_
        rw [opSwap, onRw_k hk qk, if_neg (nok (by omega) hP), nI_clamp (n := P) (by omega), if_neg (nok (by omega) hO), nI_clamp (n := O) (by omega)]
        exact pm_k (p24M.rwT hk (((congrFun eg3 (137 + k)).trans (up_n (by omega))).trans zg2) zg3 (fun i h1 h2 => (congrFun eg3 i).trans ((up_n (by omega)).trans ((congrFun eg2 i).trans ((up_n (by omega)).trans ((congrFun eg1 i).trans ((up_n (by omega)).trans (rfl)))))))) (p24A.shU (fun j hj => up_at (f := up (σ.1 k) P (σ.1 k O)) (up_at (p24A.1 k hk)) j hj)) (p24F.tr (FrM.of1 (fun i q => (congrFun eg3 i).trans ((up_n (by omega)).trans ((congrFun eg2 i).trans ((up_n (by omega)).trans ((congrFun eg1 i).trans ((up_n (by omega)).trans (rfl)))))))) (Nat.le_refl _)) (Nat.le_refl _)
      · exact absurd c27 (by decide +kernel)
    · exact absurd c16 (by decide +kernel)
