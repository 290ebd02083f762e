/-! the model's walks -/
theorem MM.dropU {h h' : AH} {ρ : Nat → Nat → Int32} {τ : Nat → Int32} {σ : CS} {th : Int32} {k : Nat} (hM : MM h ρ τ σ th) (hk : k < 6) (e0 : h' 150 = .inl (0, 6, .inl (up (shF σ) k (-1)))) (hF : ∀ i, i ≠ 150 → h' i = h i) : MM h' ρ (up τ k (τ k)) (wU σ k (false, (σ.2.2.2.2.1 k).2)) th := by
  refine hM.wkU hk (q := (false, (σ.2.2.2.2.1 k).2)) e0 ?_ ?_ ?_ ?_ ?_ ?_ (fun i hi => hF i (by omega))
  · rw [hF 151 (by decide +kernel), hM.hw]
    show _ = Sum.inl (0, 6, Sum.inl (up (fun j => (σ.2.2.2.2.1 j).2.2.1) k ((fun j => (σ.2.2.2.2.1 j).2.2.1) k)))
    rw [up_id]
  · rw [hF 152 (by decide +kernel), hM.gi]
    show _ = Sum.inl (0, 6, Sum.inl (up (fun j => (σ.2.2.2.2.1 j).2.2.2.1) k ((fun j => (σ.2.2.2.2.1 j).2.2.2.1) k)))
    rw [up_id]
  · rw [hF 153 (by decide +kernel), hM.st]
    show _ = Sum.inl (0, 6, Sum.inl (up (fun j => (σ.2.2.2.2.1 j).2.2.2.2.2.1) k ((fun j => (σ.2.2.2.2.1 j).2.2.2.2.2.1) k)))
    rw [up_id]
  · rw [hF 154 (by decide +kernel), hM.pl]
    show _ = Sum.inl (0, 6, Sum.inl (up (wAh σ) k (wAh σ k)))
    rw [up_id]
  · rw [hF 155 (by decide +kernel), hM.ct]
    show _ = Sum.inl (1, 6, Sum.inl (up (fun j => bI (σ.2.2.2.2.1 j).2.2.2.2.2.2.2) k ((fun j => bI (σ.2.2.2.2.1 j).2.2.2.2.2.2.2) k)))
    rw [up_id]
  · rw [hF 157 (by decide +kernel), hM.td, up_id]
theorem AG.dropU {ρ : Nat → Nat → Int32} {τ : Nat → Int32} {σ : CS} {k : Nat} (hA : AG ρ τ σ) (hk : k < 6) : AG ρ (up τ k (τ k)) (wU σ k (false, (σ.2.2.2.2.1 k).2)) := hA.wkU (hA.2 k hk)
theorem MM.walkU {h h' : AH} {ρ : Nat → Nat → Int32} {τ : Nat → Int32} {σ : CS} {th : Int32} {k j : Nat} {y : Int32} (hM : MM h ρ τ σ th) (hk : k < 6) (e0 : h' 150 = .inl (0, 6, .inl (up (shF σ) k (nI j)))) (e1 : h' 151 = .inl (0, 6, .inl (up (fun j => (σ.2.2.2.2.1 j).2.2.1) k y))) (e2 : h' 152 = .inl (0, 6, .inl (up (fun j => (σ.2.2.2.2.1 j).2.2.2.1) k 0)))
    (e3 : h' 153 = .inl (0, 6, .inl (up (fun j => (σ.2.2.2.2.1 j).2.2.2.2.2.1) k (σ.2.2.1 j)))) (e4 : h' 154 = .inl (0, 6, .inl (up (wAh σ) k 0))) (e5 : h' 155 = .inl (1, 6, .inl (up (fun j => bI (σ.2.2.2.2.1 j).2.2.2.2.2.2.2) k (vp_nar .boolean 0)))) (hF : ∀ i, i < 150 ∨ 158 ≤ i ∨ i = 156 ∨ i = 157 → h' i = h i) : MM h' ρ (up τ k (τ k)) (wU σ k (true, j, y, 0, 0, σ.2.2.1 j, σ.2.2.2.1 j, false)) th :=
  hM.wkU hk (q := (true, j, y, 0, 0, σ.2.2.1 j, σ.2.2.2.1 j, false)) e0 e1 e2 e3 (e4.trans (congrArg (fun z => Sum.inl (0, 6, Sum.inl (up (wAh σ) k z))) (show (0 : Int32) = 0 - 0 by decide +kernel))) e5 (by rw [hF 157 (by decide +kernel), hM.td, up_id]) (fun i hi => hF i (by omega))
theorem AG.walkU {ρ : Nat → Nat → Int32} {τ : Nat → Int32} {σ : CS} {k j : Nat} {y a b : Int32} (hA : AG ρ τ σ) : AG ρ (up τ k (τ k)) (wU σ k (true, j, y, 0, 0, a, b, false)) := hA.wkU (fun e => by cases e)
theorem wHM_s {σ : CS} {k : Nat} (h : wSt σ k = true) : wHM σ k = false := by
  have e := of_decide_eq_true h
  unfold wHM hmB
  rw [decide_eq_true e]
  rfl
theorem wHM_t {σ : CS} {k : Nat} (h : wSt σ k = false) (g : decide (wAh σ k < nI (σ.2.1 (wO σ k))) = true) : ¬ wHM σ k = false := by rw [wHM_m h, g]; decide
theorem wHM_f {σ : CS} {k : Nat} (h : wSt σ k = false) (g : decide (wAh σ k < nI (σ.2.1 (wO σ k))) = false) : wHM σ k = false := by rw [wHM_m h, g]
theorem wGa_s {σ : CS} {k : Nat} (h : wSt σ k = true) : wGa σ k = false := by unfold wGa; rw [h]; rfl
theorem wGa_1 {σ : CS} {k : Nat} (h : (σ.2.2.2.2.1 k).2.2.1 = 1) : wGa σ k = false := by unfold wGa; rw [decide_eq_false (fun q => q h), Bool.and_false]
theorem wGa_t {σ : CS} {k : Nat} (h : wSt σ k = false) (g : ¬ (σ.2.2.2.2.1 k).2.2.1 = 1) : wGa σ k = true := by unfold wGa; rw [h, decide_eq_true g]; rfl
theorem tcl {A : Nat} (h : A < 2 ^ 31) {x : Int32} (e : x = nI A) : x.toNatClampNeg = A := by rw [e, nI_clamp h]
theorem q_drop {h : AH} {d bc bs n : Nat} {σ : CS} {th : Int32} {a : Int32} (hR : RMo h σ th) (hI : Iv σ) (hn : 159 ≤ n) (hd : 8 ≤ d) (h1 : 1 ≤ bc) (h2 : 12 ≤ bs)  : SM SR0 MX5_drop d bc bs [.ref 135, .int a] h n (PM h n (tc sI sI) (opDrop σ a)) := by
  obtain ⟨ρ, τ, hM, hA⟩ := hR
  obtain ⟨G0, hG0, eG0⟩ := hM.out
  refine sm_of pn_OverwalksModel rfl (Nat.le_of_ble_eq_true rfl) ?_
  rcases idxN 6 (by decide +kernel) a with qk1 | ⟨k, hk, rfl⟩
  · refine sw_aload_n (pc' := 1) rfl dX5_drop_0 rfl ?_
    refine sw_iload_n (pc' := 2) rfl dX5_drop_1 rfl ?_
    refine sw_S (M' := MX5_isNoWalk) (d' := d - 1) (bc' := 0) (bs' := 0) (as := [_]) dX5_drop_2 w_1306 ok_X5_isNoWalk (q_isNoWalk (by omega)) (by omega) (Nat.le_of_ble_eq_true rfl) (Nat.zero_le _) (Nat.zero_le _) (fun E h' n' _ z => det_x z) (det_k ?_)
    rw [show inB a 0 5 = false from no_x (N := 5) (by decide +kernel) qk1]
    show SW _ _ _ _ _ _ _ (.int 1 :: _) _ _ _
    refine sw_V (M' := MX5_isStopped__) (d' := d - 1) (bc' := 0) (bs' := 0) (ci := 6) (as := [_]) dX5_drop_5 w_1235 ok_X5_isStopped__ (q_isStopped1 (a := true) hM hA (by omega)) hM.ob rfl (by omega) (Nat.le_of_ble_eq_true rfl) (Nat.zero_le _) (Nat.zero_le _) (fun E h' n' _ z => rp_x z) (rp_k (fun p5 p5ρ p5τ p5M p5A p5F => ?_))
    obtain ⟨Gp5, hGp5, eGp5⟩ := p5M.out
    show SW _ _ _ _ _ _ _ (.int 1 :: _) _ _ _
    refine sw_if_eq (pc' := 11) (tgt := 13) rfl dX5_drop_8 (by decide +kernel) (fun c8 => ?_) (fun c8 => ?_)
    · exact absurd c8 (by decide +kernel)
    · refine sw_iconst (pc' := 12) (v := 0) rfl dX5_drop_11 (by decide +kernel) ?_
      refine sw_ret (v := some _) ⟨dX5_drop_12, _, rfl, rfl⟩ ?_
      rw [opDrop, onWk_x qk1]
      exact pm_x tc_1 p5M p5A p5F (Nat.le_refl _)
  have ovk := hI.2.2.2.2.2.2.1 k hk
  have hcwk := hI.1 _ ovk
  rcases hm : (σ.2.2.2.2.1 k).1 with _ | _
  · skip
    refine sw_aload_n (pc' := 1) rfl dX5_drop_0 rfl ?_
    refine sw_iload_n (pc' := 2) rfl dX5_drop_1 rfl ?_
    refine sw_S (M' := MX5_isNoWalk) (d' := d - 1) (bc' := 0) (bs' := 0) (as := [_]) dX5_drop_2 w_1306 ok_X5_isNoWalk (q_isNoWalk (by omega)) (by omega) (Nat.le_of_ble_eq_true rfl) (Nat.zero_le _) (Nat.zero_le _) (fun E h' n' _ z => det_x z) (det_k ?_)
    rw [show inB (nI k) 0 5 = true from inB_k (N := 5) (by omega) (by decide +kernel)]
    show SW _ _ _ _ _ _ _ (.int 0 :: _) _ _ _
    refine sw_V (M' := MX5_isStopped__) (d' := d - 1) (bc' := 0) (bs' := 0) (ci := 6) (as := [_]) dX5_drop_5 w_1235 ok_X5_isStopped__ (q_isStopped1 (a := false) hM hA (by omega)) hM.ob rfl (by omega) (Nat.le_of_ble_eq_true rfl) (Nat.zero_le _) (Nat.zero_le _) (fun E h' n' _ z => rp_x z) (rp_k (fun p5 p5ρ p5τ p5M p5A p5F => ?_))
    obtain ⟨Gp5, hGp5, eGp5⟩ := p5M.out
    show SW _ _ _ _ _ _ _ (.int 0 :: _) _ _ _
    refine sw_if_eq (pc' := 11) (tgt := 13) rfl dX5_drop_8 (by decide +kernel) (fun c8 => ?_) (fun c8 => ?_)
    · refine sw_aload_n (pc' := 14) rfl dX5_drop_13 rfl ?_
      refine sw_getf (ci := 6) (k := 6) (pc' := 17) rfl dX5_drop_14 (by decide +kernel) w_1119 p5M.ob rfl ?_
      refine sw_iload_n (pc' := 18) rfl dX5_drop_17 rfl ?_
      refine sw_iald (j := k) (pc' := 19) rfl dX5_drop_18 p5M.sh rfl (by omega) (by decide +kernel) ?_
      rw [shF_n (k := k) (by omega) hm]
      refine sw_iconst (pc' := 20) (v := (-1)) rfl dX5_drop_19 (by decide +kernel) ?_
      refine sw_icmp_eq (pc' := 23) (tgt := 27) rfl dX5_drop_20 (by decide +kernel) (fun c20 => ?_) (fun c20 => ?_)
      · refine sw_iconst (pc' := 28) (v := 0) rfl dX5_drop_27 (by decide +kernel) ?_
        refine sw_istore_n (pc' := 29) (lv' := [(2, _), (0, _), (1, _)]) rfl dX5_drop_28 (by decide +kernel) rfl ?_
        refine sw_aload_n (pc' := 30) rfl dX5_drop_29 rfl ?_
        refine sw_getf (ci := 6) (k := 6) (pc' := 33) rfl dX5_drop_30 (by decide +kernel) w_1119 p5M.ob rfl ?_
        refine sw_iload_n (pc' := 34) rfl dX5_drop_33 rfl ?_
        refine sw_iconst (pc' := 35) (v := (-1)) rfl dX5_drop_34 (by decide +kernel) ?_
        refine sw_iast (j := k) (pc' := 36) rfl dX5_drop_35 p5M.sh (by decide +kernel) rfl (by omega) (by decide +kernel) ?_
        refine sw_nm (fun g1 eg1 => ?_)
        have zg1 := (congrFun eg1 150).trans (up_s (h := p5) (i := 150))
        refine sw_iload_n (pc' := 37) rfl dX5_drop_36 rfl ?_
        refine sw_S (M' := MX5_one) (d' := d - 1) (bc' := 0) (bs' := 0) (as := [_]) dX5_drop_37 w_1196 ok_X5_one (q_one (q := false)) (by omega) (Nat.le_of_ble_eq_true rfl) (Nat.zero_le _) (Nat.zero_le _) (fun E h' n' _ z => det_x z) (det_k ?_)
        show SW _ _ _ _ _ _ _ (.int 0 :: _) _ _ _
        refine sw_ret (v := some _) ⟨dX5_drop_40, _, rfl, rfl⟩ ?_
        rw [opDrop, onWk_k hk, hm]
        exact pm_k (p5M.dropU hk zg1 (fun i h1 => (congrFun eg1 i).trans ((up_n h1).trans (rfl)))) (p5A.dropU hk) (p5F.tr (FrM.of1 (fun i q => (congrFun eg1 i).trans ((up_n (by omega)).trans (rfl)))) (Nat.le_refl _)) (Nat.le_refl _)
      · exact absurd c20 (by decide +kernel)
    · exact absurd c8 (by decide +kernel)
  · skip
    refine sw_aload_n (pc' := 1) rfl dX5_drop_0 rfl ?_
    refine sw_iload_n (pc' := 2) rfl dX5_drop_1 rfl ?_
    refine sw_S (M' := MX5_isNoWalk) (d' := d - 1) (bc' := 0) (bs' := 0) (as := [_]) dX5_drop_2 w_1306 ok_X5_isNoWalk (q_isNoWalk (by omega)) (by omega) (Nat.le_of_ble_eq_true rfl) (Nat.zero_le _) (Nat.zero_le _) (fun E h' n' _ z => det_x z) (det_k ?_)
    rw [show inB (nI k) 0 5 = true from inB_k (N := 5) (by omega) (by decide +kernel)]
    show SW _ _ _ _ _ _ _ (.int 0 :: _) _ _ _
    refine sw_V (M' := MX5_isStopped__) (d' := d - 1) (bc' := 0) (bs' := 0) (ci := 6) (as := [_]) dX5_drop_5 w_1235 ok_X5_isStopped__ (q_isStopped1 (a := false) hM hA (by omega)) hM.ob rfl (by omega) (Nat.le_of_ble_eq_true rfl) (Nat.zero_le _) (Nat.zero_le _) (fun E h' n' _ z => rp_x z) (rp_k (fun p5 p5ρ p5τ p5M p5A p5F => ?_))
    obtain ⟨Gp5, hGp5, eGp5⟩ := p5M.out
    show SW _ _ _ _ _ _ _ (.int 0 :: _) _ _ _
    refine sw_if_eq (pc' := 11) (tgt := 13) rfl dX5_drop_8 (by decide +kernel) (fun c8 => ?_) (fun c8 => ?_)
    · refine sw_aload_n (pc' := 14) rfl dX5_drop_13 rfl ?_
      refine sw_getf (ci := 6) (k := 6) (pc' := 17) rfl dX5_drop_14 (by decide +kernel) w_1119 p5M.ob rfl ?_
      refine sw_iload_n (pc' := 18) rfl dX5_drop_17 rfl ?_
      refine sw_iald (j := k) (pc' := 19) rfl dX5_drop_18 p5M.sh rfl (by omega) (by decide +kernel) ?_
      rw [shF_m (k := k) (by omega) hm]
      refine sw_iconst (pc' := 20) (v := (-1)) rfl dX5_drop_19 (by decide +kernel) ?_
      refine sw_icmp_eq (pc' := 23) (tgt := 27) rfl dX5_drop_20 (by decide +kernel) (fun c20 => ?_) (fun c20 => ?_)
      · exact absurd c20 (nI_ne1 (by omega))
      · refine sw_iconst (pc' := 24) (v := 1) rfl dX5_drop_23 (by decide +kernel) ?_
        refine sw_goto (tgt := 28) dX5_drop_24 (by decide +kernel) ?_
        refine sw_istore_n (pc' := 29) (lv' := [(2, _), (0, _), (1, _)]) rfl dX5_drop_28 (by decide +kernel) rfl ?_
        refine sw_aload_n (pc' := 30) rfl dX5_drop_29 rfl ?_
        refine sw_getf (ci := 6) (k := 6) (pc' := 33) rfl dX5_drop_30 (by decide +kernel) w_1119 p5M.ob rfl ?_
        refine sw_iload_n (pc' := 34) rfl dX5_drop_33 rfl ?_
        refine sw_iconst (pc' := 35) (v := (-1)) rfl dX5_drop_34 (by decide +kernel) ?_
        refine sw_iast (j := k) (pc' := 36) rfl dX5_drop_35 p5M.sh (by decide +kernel) rfl (by omega) (by decide +kernel) ?_
        refine sw_nm (fun g2 eg2 => ?_)
        have zg2 := (congrFun eg2 150).trans (up_s (h := p5) (i := 150))
        refine sw_iload_n (pc' := 37) rfl dX5_drop_36 rfl ?_
        refine sw_S (M' := MX5_one) (d' := d - 1) (bc' := 0) (bs' := 0) (as := [_]) dX5_drop_37 w_1196 ok_X5_one (q_one (q := true)) (by omega) (Nat.le_of_ble_eq_true rfl) (Nat.zero_le _) (Nat.zero_le _) (fun E h' n' _ z => det_x z) (det_k ?_)
        show SW _ _ _ _ _ _ _ (.int 1 :: _) _ _ _
        refine sw_ret (v := some _) ⟨dX5_drop_40, _, rfl, rfl⟩ ?_
        rw [opDrop, onWk_k hk, hm]
        exact pm_k (p5M.dropU hk zg2 (fun i h1 => (congrFun eg2 i).trans ((up_n h1).trans (rfl)))) (p5A.dropU hk) (p5F.tr (FrM.of1 (fun i q => (congrFun eg2 i).trans ((up_n (by omega)).trans (rfl)))) (Nat.le_refl _)) (Nat.le_refl _)
    · exact absurd c8 (by decide +kernel)
theorem q_walk {h : AH} {d bc bs n : Nat} {σ : CS} {th : Int32} {a b y : Int32} (hR : RMo h σ th) (hI : Iv σ) (hn : 159 ≤ n) (hd : 8 ≤ d) (h1 : 1 ≤ bc) (h2 : 12 ≤ bs)  : SM SR0 MX5_walk d bc bs [.ref 135, .int a, .int b, .int y] h n (PM h n (tc sI sA) (opWalk σ a b y)) := by
  obtain ⟨ρ, τ, hM, hA⟩ := hR
  obtain ⟨G0, hG0, eG0⟩ := hM.out
  refine sm_of pn_OverwalksModel rfl (Nat.le_of_ble_eq_true rfl) ?_
  rcases idxN 6 (by decide +kernel) a with qk1 | ⟨k, hk, rfl⟩
  · refine sw_aload_n (pc' := 1) rfl dX5_walk_0 rfl ?_
    refine sw_iload_n (pc' := 2) rfl dX5_walk_1 rfl ?_
    refine sw_S (M' := MX5_isNoWalk) (d' := d - 1) (bc' := 0) (bs' := 0) (as := [_]) dX5_walk_2 w_1306 ok_X5_isNoWalk (q_isNoWalk (by omega)) (by omega) (Nat.le_of_ble_eq_true rfl) (Nat.zero_le _) (Nat.zero_le _) (fun E h' n' _ z => det_x z) (det_k ?_)
    rw [show inB a 0 5 = false from no_x (N := 5) (by decide +kernel) qk1]
    show SW _ _ _ _ _ _ _ (.int 1 :: _) _ _ _
    refine sw_if_ne (pc' := 8) (tgt := 15) rfl dX5_walk_5 (by decide +kernel) (fun c5 => ?_) (fun c5 => ?_)
    · refine sw_iconst (pc' := 16) (v := 1) rfl dX5_walk_15 (by decide +kernel) ?_
      refine sw_goto (tgt := 20) dX5_walk_16 (by decide +kernel) ?_
      refine sw_iload_n (pc' := 21) rfl dX5_walk_20 rfl ?_
      refine sw_iconst (pc' := 22) (v := 0) rfl dX5_walk_21 (by decide +kernel) ?_
      refine sw_iconst (pc' := 23) (v := 2) rfl dX5_walk_22 (by decide +kernel) ?_
      refine sw_S (M' := MX5_isIn) (d' := d - 1) (bc' := 0) (bs' := 0) (as := [_, _, _]) dX5_walk_23 w_1168 ok_X5_isIn (q_isIn) (by omega) (Nat.le_of_ble_eq_true rfl) (Nat.zero_le _) (Nat.zero_le _) (fun E h' n' _ z => det_x z) (det_k ?_)
      refine sw_if_eq (pc' := 29) (tgt := 38) rfl dX5_walk_26 (by decide +kernel) (fun c26 => ?_) (fun c26 => ?_)
      · refine sw_iconst (pc' := 39) (v := 1) rfl dX5_walk_38 (by decide +kernel) ?_
        refine sw_goto (tgt := 43) dX5_walk_39 (by decide +kernel) ?_
        refine sw_V (M' := MX5_isStopped_) (d' := d - 1) (bc' := 0) (bs' := 0) (ci := 6) (as := [_, _]) dX5_walk_43 w_1215 ok_X5_isStopped_ (q_isStopped2 (a := true) (b := true) hM hA (by omega)) hM.ob rfl (by omega) (Nat.le_of_ble_eq_true rfl) (Nat.zero_le _) (Nat.zero_le _) (fun E h' n' _ z => rp_x z) (rp_k (fun p43 p43ρ p43τ p43M p43A p43F => ?_))
        obtain ⟨Gp43, hGp43, eGp43⟩ := p43M.out
        show SW _ _ _ _ _ _ _ (.int 1 :: _) _ _ _
        refine sw_if_eq (pc' := 49) (tgt := 51) rfl dX5_walk_46 (by decide +kernel) (fun c46 => ?_) (fun c46 => ?_)
        · exact absurd c46 (by decide +kernel)
        · refine sw_iconst (pc' := 50) (v := 0) rfl dX5_walk_49 (by decide +kernel) ?_
          refine sw_ret (v := some _) ⟨dX5_walk_50, _, rfl, rfl⟩ ?_
          rw [opWalk, onWk_x qk1]
          exact pm_x tc_1 p43M p43A p43F (Nat.le_refl _)
      · refine sw_iload_n (pc' := 30) rfl dX5_walk_29 rfl ?_
        refine sw_iconst (pc' := 31) (v := 2) rfl dX5_walk_30 (by decide +kernel) ?_
        refine sw_icmp_ne (pc' := 34) (tgt := 42) rfl dX5_walk_31 (by decide +kernel) (fun c31 => ?_) (fun c31 => ?_)
        · refine sw_iconst (pc' := 43) (v := 0) rfl dX5_walk_42 (by decide +kernel) ?_
          refine sw_V (M' := MX5_isStopped_) (d' := d - 1) (bc' := 0) (bs' := 0) (ci := 6) (as := [_, _]) dX5_walk_43 w_1215 ok_X5_isStopped_ (q_isStopped2 (a := true) (b := false) hM hA (by omega)) hM.ob rfl (by omega) (Nat.le_of_ble_eq_true rfl) (Nat.zero_le _) (Nat.zero_le _) (fun E h' n' _ z => rp_x z) (rp_k (fun p43 p43ρ p43τ p43M p43A p43F => ?_))
          obtain ⟨Gp43, hGp43, eGp43⟩ := p43M.out
          show SW _ _ _ _ _ _ _ (.int 1 :: _) _ _ _
          refine sw_if_eq (pc' := 49) (tgt := 51) rfl dX5_walk_46 (by decide +kernel) (fun c46 => ?_) (fun c46 => ?_)
          · exact absurd c46 (by decide +kernel)
          · refine sw_iconst (pc' := 50) (v := 0) rfl dX5_walk_49 (by decide +kernel) ?_
            refine sw_ret (v := some _) ⟨dX5_walk_50, _, rfl, rfl⟩ ?_
            rw [opWalk, onWk_x qk1]
            exact pm_x tc_1 p43M p43A p43F (Nat.le_refl _)
        · refine sw_iload_n (pc' := 35) rfl dX5_walk_34 rfl ?_
          refine sw_if_eq (pc' := 38) (tgt := 42) rfl dX5_walk_35 (by decide +kernel) (fun c35 => ?_) (fun c35 => ?_)
          · refine sw_iconst (pc' := 43) (v := 0) rfl dX5_walk_42 (by decide +kernel) ?_
            refine sw_V (M' := MX5_isStopped_) (d' := d - 1) (bc' := 0) (bs' := 0) (ci := 6) (as := [_, _]) dX5_walk_43 w_1215 ok_X5_isStopped_ (q_isStopped2 (a := true) (b := false) hM hA (by omega)) hM.ob rfl (by omega) (Nat.le_of_ble_eq_true rfl) (Nat.zero_le _) (Nat.zero_le _) (fun E h' n' _ z => rp_x z) (rp_k (fun p43 p43ρ p43τ p43M p43A p43F => ?_))
            obtain ⟨Gp43, hGp43, eGp43⟩ := p43M.out
            show SW _ _ _ _ _ _ _ (.int 1 :: _) _ _ _
            refine sw_if_eq (pc' := 49) (tgt := 51) rfl dX5_walk_46 (by decide +kernel) (fun c46 => ?_) (fun c46 => ?_)
            · exact absurd c46 (by decide +kernel)
            · refine sw_iconst (pc' := 50) (v := 0) rfl dX5_walk_49 (by decide +kernel) ?_
              refine sw_ret (v := some _) ⟨dX5_walk_50, _, rfl, rfl⟩ ?_
              rw [opWalk, onWk_x qk1]
              exact pm_x tc_1 p43M p43A p43F (Nat.le_refl _)
          · refine sw_iconst (pc' := 39) (v := 1) rfl dX5_walk_38 (by decide +kernel) ?_
            refine sw_goto (tgt := 43) dX5_walk_39 (by decide +kernel) ?_
            refine sw_V (M' := MX5_isStopped_) (d' := d - 1) (bc' := 0) (bs' := 0) (ci := 6) (as := [_, _]) dX5_walk_43 w_1215 ok_X5_isStopped_ (q_isStopped2 (a := true) (b := true) hM hA (by omega)) hM.ob rfl (by omega) (Nat.le_of_ble_eq_true rfl) (Nat.zero_le _) (Nat.zero_le _) (fun E h' n' _ z => rp_x z) (rp_k (fun p43 p43ρ p43τ p43M p43A p43F => ?_))
            obtain ⟨Gp43, hGp43, eGp43⟩ := p43M.out
            show SW _ _ _ _ _ _ _ (.int 1 :: _) _ _ _
            refine sw_if_eq (pc' := 49) (tgt := 51) rfl dX5_walk_46 (by decide +kernel) (fun c46 => ?_) (fun c46 => ?_)
            · exact absurd c46 (by decide +kernel)
            · refine sw_iconst (pc' := 50) (v := 0) rfl dX5_walk_49 (by decide +kernel) ?_
              refine sw_ret (v := some _) ⟨dX5_walk_50, _, rfl, rfl⟩ ?_
              rw [opWalk, onWk_x qk1]
              exact pm_x tc_1 p43M p43A p43F (Nat.le_refl _)
    · exact absurd c5 (by decide +kernel)
  have ovk := hI.2.2.2.2.2.2.1 k hk
  have hcwk := hI.1 _ ovk
  rcases idxN 11 (by decide +kernel) b with qj1 | ⟨j, hj, rfl⟩
  · refine sw_aload_n (pc' := 1) rfl dX5_walk_0 rfl ?_
    refine sw_iload_n (pc' := 2) rfl dX5_walk_1 rfl ?_
    refine sw_S (M' := MX5_isNoWalk) (d' := d - 1) (bc' := 0) (bs' := 0) (as := [_]) dX5_walk_2 w_1306 ok_X5_isNoWalk (q_isNoWalk (by omega)) (by omega) (Nat.le_of_ble_eq_true rfl) (Nat.zero_le _) (Nat.zero_le _) (fun E h' n' _ z => det_x z) (det_k ?_)
    rw [show inB (nI k) 0 5 = true from inB_k (N := 5) (by omega) (by decide +kernel)]
    show SW _ _ _ _ _ _ _ (.int 0 :: _) _ _ _
    refine sw_if_ne (pc' := 8) (tgt := 15) rfl dX5_walk_5 (by decide +kernel) (fun c5 => ?_) (fun c5 => ?_)
    · exact absurd c5 (by decide +kernel)
    · refine sw_iload_n (pc' := 9) rfl dX5_walk_8 rfl ?_
      refine sw_S (M' := MX5_isNone) (d' := d - 1) (bc' := 0) (bs' := 0) (as := [_]) dX5_walk_9 w_1165 ok_X5_isNone (q_isNone (by omega)) (by omega) (Nat.le_of_ble_eq_true rfl) (Nat.zero_le _) (Nat.zero_le _) (fun E h' n' _ z => det_x z) (det_k ?_)
      rw [show inB b 0 10 = false from no_x (N := 10) (by decide +kernel) qj1]
      show SW _ _ _ _ _ _ _ (.int 1 :: _) _ _ _
      refine sw_if_eq (pc' := 15) (tgt := 19) rfl dX5_walk_12 (by decide +kernel) (fun c12 => ?_) (fun c12 => ?_)
      · exact absurd c12 (by decide +kernel)
      · refine sw_iconst (pc' := 16) (v := 1) rfl dX5_walk_15 (by decide +kernel) ?_
        refine sw_goto (tgt := 20) dX5_walk_16 (by decide +kernel) ?_
        refine sw_iload_n (pc' := 21) rfl dX5_walk_20 rfl ?_
        refine sw_iconst (pc' := 22) (v := 0) rfl dX5_walk_21 (by decide +kernel) ?_
        refine sw_iconst (pc' := 23) (v := 2) rfl dX5_walk_22 (by decide +kernel) ?_
        refine sw_S (M' := MX5_isIn) (d' := d - 1) (bc' := 0) (bs' := 0) (as := [_, _, _]) dX5_walk_23 w_1168 ok_X5_isIn (q_isIn) (by omega) (Nat.le_of_ble_eq_true rfl) (Nat.zero_le _) (Nat.zero_le _) (fun E h' n' _ z => det_x z) (det_k ?_)
        refine sw_if_eq (pc' := 29) (tgt := 38) rfl dX5_walk_26 (by decide +kernel) (fun c26 => ?_) (fun c26 => ?_)
        · refine sw_iconst (pc' := 39) (v := 1) rfl dX5_walk_38 (by decide +kernel) ?_
          refine sw_goto (tgt := 43) dX5_walk_39 (by decide +kernel) ?_
          refine sw_V (M' := MX5_isStopped_) (d' := d - 1) (bc' := 0) (bs' := 0) (ci := 6) (as := [_, _]) dX5_walk_43 w_1215 ok_X5_isStopped_ (q_isStopped2 (a := true) (b := true) hM hA (by omega)) hM.ob rfl (by omega) (Nat.le_of_ble_eq_true rfl) (Nat.zero_le _) (Nat.zero_le _) (fun E h' n' _ z => rp_x z) (rp_k (fun p43 p43ρ p43τ p43M p43A p43F => ?_))
          obtain ⟨Gp43, hGp43, eGp43⟩ := p43M.out
          show SW _ _ _ _ _ _ _ (.int 1 :: _) _ _ _
          refine sw_if_eq (pc' := 49) (tgt := 51) rfl dX5_walk_46 (by decide +kernel) (fun c46 => ?_) (fun c46 => ?_)
          · exact absurd c46 (by decide +kernel)
          · refine sw_iconst (pc' := 50) (v := 0) rfl dX5_walk_49 (by decide +kernel) ?_
            refine sw_ret (v := some _) ⟨dX5_walk_50, _, rfl, rfl⟩ ?_
            rw [opWalk, onWk_k hk, onSh_x qj1]
            exact pm_x tc_1 p43M p43A p43F (Nat.le_refl _)
        · refine sw_iload_n (pc' := 30) rfl dX5_walk_29 rfl ?_
          refine sw_iconst (pc' := 31) (v := 2) rfl dX5_walk_30 (by decide +kernel) ?_
          refine sw_icmp_ne (pc' := 34) (tgt := 42) rfl dX5_walk_31 (by decide +kernel) (fun c31 => ?_) (fun c31 => ?_)
          · refine sw_iconst (pc' := 43) (v := 0) rfl dX5_walk_42 (by decide +kernel) ?_
            refine sw_V (M' := MX5_isStopped_) (d' := d - 1) (bc' := 0) (bs' := 0) (ci := 6) (as := [_, _]) dX5_walk_43 w_1215 ok_X5_isStopped_ (q_isStopped2 (a := true) (b := false) hM hA (by omega)) hM.ob rfl (by omega) (Nat.le_of_ble_eq_true rfl) (Nat.zero_le _) (Nat.zero_le _) (fun E h' n' _ z => rp_x z) (rp_k (fun p43 p43ρ p43τ p43M p43A p43F => ?_))
            obtain ⟨Gp43, hGp43, eGp43⟩ := p43M.out
            show SW _ _ _ _ _ _ _ (.int 1 :: _) _ _ _
            refine sw_if_eq (pc' := 49) (tgt := 51) rfl dX5_walk_46 (by decide +kernel) (fun c46 => ?_) (fun c46 => ?_)
            · exact absurd c46 (by decide +kernel)
            · refine sw_iconst (pc' := 50) (v := 0) rfl dX5_walk_49 (by decide +kernel) ?_
              refine sw_ret (v := some _) ⟨dX5_walk_50, _, rfl, rfl⟩ ?_
              rw [opWalk, onWk_k hk, onSh_x qj1]
              exact pm_x tc_1 p43M p43A p43F (Nat.le_refl _)
          · refine sw_iload_n (pc' := 35) rfl dX5_walk_34 rfl ?_
            refine sw_if_eq (pc' := 38) (tgt := 42) rfl dX5_walk_35 (by decide +kernel) (fun c35 => ?_) (fun c35 => ?_)
            · refine sw_iconst (pc' := 43) (v := 0) rfl dX5_walk_42 (by decide +kernel) ?_
              refine sw_V (M' := MX5_isStopped_) (d' := d - 1) (bc' := 0) (bs' := 0) (ci := 6) (as := [_, _]) dX5_walk_43 w_1215 ok_X5_isStopped_ (q_isStopped2 (a := true) (b := false) hM hA (by omega)) hM.ob rfl (by omega) (Nat.le_of_ble_eq_true rfl) (Nat.zero_le _) (Nat.zero_le _) (fun E h' n' _ z => rp_x z) (rp_k (fun p43 p43ρ p43τ p43M p43A p43F => ?_))
              obtain ⟨Gp43, hGp43, eGp43⟩ := p43M.out
              show SW _ _ _ _ _ _ _ (.int 1 :: _) _ _ _
              refine sw_if_eq (pc' := 49) (tgt := 51) rfl dX5_walk_46 (by decide +kernel) (fun c46 => ?_) (fun c46 => ?_)
              · exact absurd c46 (by decide +kernel)
              · refine sw_iconst (pc' := 50) (v := 0) rfl dX5_walk_49 (by decide +kernel) ?_
                refine sw_ret (v := some _) ⟨dX5_walk_50, _, rfl, rfl⟩ ?_
                rw [opWalk, onWk_k hk, onSh_x qj1]
                exact pm_x tc_1 p43M p43A p43F (Nat.le_refl _)
            · refine sw_iconst (pc' := 39) (v := 1) rfl dX5_walk_38 (by decide +kernel) ?_
              refine sw_goto (tgt := 43) dX5_walk_39 (by decide +kernel) ?_
              refine sw_V (M' := MX5_isStopped_) (d' := d - 1) (bc' := 0) (bs' := 0) (ci := 6) (as := [_, _]) dX5_walk_43 w_1215 ok_X5_isStopped_ (q_isStopped2 (a := true) (b := true) hM hA (by omega)) hM.ob rfl (by omega) (Nat.le_of_ble_eq_true rfl) (Nat.zero_le _) (Nat.zero_le _) (fun E h' n' _ z => rp_x z) (rp_k (fun p43 p43ρ p43τ p43M p43A p43F => ?_))
              obtain ⟨Gp43, hGp43, eGp43⟩ := p43M.out
              show SW _ _ _ _ _ _ _ (.int 1 :: _) _ _ _
              refine sw_if_eq (pc' := 49) (tgt := 51) rfl dX5_walk_46 (by decide +kernel) (fun c46 => ?_) (fun c46 => ?_)
              · exact absurd c46 (by decide +kernel)
              · refine sw_iconst (pc' := 50) (v := 0) rfl dX5_walk_49 (by decide +kernel) ?_
                refine sw_ret (v := some _) ⟨dX5_walk_50, _, rfl, rfl⟩ ?_
                rw [opWalk, onWk_k hk, onSh_x qj1]
                exact pm_x tc_1 p43M p43A p43F (Nat.le_refl _)
  have hcj := hI.1 j hj
  rcases Classical.em (y < 0 ∨ 2 < y) with qy | qy
  · refine sw_aload_n (pc' := 1) rfl dX5_walk_0 rfl ?_
    refine sw_iload_n (pc' := 2) rfl dX5_walk_1 rfl ?_
    refine sw_S (M' := MX5_isNoWalk) (d' := d - 1) (bc' := 0) (bs' := 0) (as := [_]) dX5_walk_2 w_1306 ok_X5_isNoWalk (q_isNoWalk (by omega)) (by omega) (Nat.le_of_ble_eq_true rfl) (Nat.zero_le _) (Nat.zero_le _) (fun E h' n' _ z => det_x z) (det_k ?_)
    rw [show inB (nI k) 0 5 = true from inB_k (N := 5) (by omega) (by decide +kernel)]
    show SW _ _ _ _ _ _ _ (.int 0 :: _) _ _ _
    refine sw_if_ne (pc' := 8) (tgt := 15) rfl dX5_walk_5 (by decide +kernel) (fun c5 => ?_) (fun c5 => ?_)
    · exact absurd c5 (by decide +kernel)
    · refine sw_iload_n (pc' := 9) rfl dX5_walk_8 rfl ?_
      refine sw_S (M' := MX5_isNone) (d' := d - 1) (bc' := 0) (bs' := 0) (as := [_]) dX5_walk_9 w_1165 ok_X5_isNone (q_isNone (by omega)) (by omega) (Nat.le_of_ble_eq_true rfl) (Nat.zero_le _) (Nat.zero_le _) (fun E h' n' _ z => det_x z) (det_k ?_)
      rw [show inB (nI j) 0 10 = true from inB_k (N := 10) (by omega) (by decide +kernel)]
      show SW _ _ _ _ _ _ _ (.int 0 :: _) _ _ _
      refine sw_if_eq (pc' := 15) (tgt := 19) rfl dX5_walk_12 (by decide +kernel) (fun c12 => ?_) (fun c12 => ?_)
      · refine sw_iconst (pc' := 20) (v := 0) rfl dX5_walk_19 (by decide +kernel) ?_
        refine sw_iload_n (pc' := 21) rfl dX5_walk_20 rfl ?_
        refine sw_iconst (pc' := 22) (v := 0) rfl dX5_walk_21 (by decide +kernel) ?_
        refine sw_iconst (pc' := 23) (v := 2) rfl dX5_walk_22 (by decide +kernel) ?_
        refine sw_S (M' := MX5_isIn) (d' := d - 1) (bc' := 0) (bs' := 0) (as := [_, _, _]) dX5_walk_23 w_1168 ok_X5_isIn (q_isIn) (by omega) (Nat.le_of_ble_eq_true rfl) (Nat.zero_le _) (Nat.zero_le _) (fun E h' n' _ z => det_x z) (det_k ?_)
        rw [show inB y 0 2 = false from inB_x qy]
        show SW _ _ _ _ _ _ _ (.int 0 :: _) _ _ _
        refine sw_if_eq (pc' := 29) (tgt := 38) rfl dX5_walk_26 (by decide +kernel) (fun c26 => ?_) (fun c26 => ?_)
        · refine sw_iconst (pc' := 39) (v := 1) rfl dX5_walk_38 (by decide +kernel) ?_
          refine sw_goto (tgt := 43) dX5_walk_39 (by decide +kernel) ?_
          refine sw_V (M' := MX5_isStopped_) (d' := d - 1) (bc' := 0) (bs' := 0) (ci := 6) (as := [_, _]) dX5_walk_43 w_1215 ok_X5_isStopped_ (q_isStopped2 (a := false) (b := true) hM hA (by omega)) hM.ob rfl (by omega) (Nat.le_of_ble_eq_true rfl) (Nat.zero_le _) (Nat.zero_le _) (fun E h' n' _ z => rp_x z) (rp_k (fun p43 p43ρ p43τ p43M p43A p43F => ?_))
          obtain ⟨Gp43, hGp43, eGp43⟩ := p43M.out
          show SW _ _ _ _ _ _ _ (.int 1 :: _) _ _ _
          refine sw_if_eq (pc' := 49) (tgt := 51) rfl dX5_walk_46 (by decide +kernel) (fun c46 => ?_) (fun c46 => ?_)
          · exact absurd c46 (by decide +kernel)
          · refine sw_iconst (pc' := 50) (v := 0) rfl dX5_walk_49 (by decide +kernel) ?_
            refine sw_ret (v := some _) ⟨dX5_walk_50, _, rfl, rfl⟩ ?_
            rw [opWalk, onWk_k hk, onSh_k hj, if_pos qy]
            exact pm_x (tc_2 sAI) p43M p43A p43F (Nat.le_refl _)
        · exact absurd c26 (by decide +kernel)
      · exact absurd c12 (by decide +kernel)
  rcases Classical.em (y = 2 ∧ ¬ nI j = 0) with q2 | q2
  · refine sw_aload_n (pc' := 1) rfl dX5_walk_0 rfl ?_
    refine sw_iload_n (pc' := 2) rfl dX5_walk_1 rfl ?_
    refine sw_S (M' := MX5_isNoWalk) (d' := d - 1) (bc' := 0) (bs' := 0) (as := [_]) dX5_walk_2 w_1306 ok_X5_isNoWalk (q_isNoWalk (by omega)) (by omega) (Nat.le_of_ble_eq_true rfl) (Nat.zero_le _) (Nat.zero_le _) (fun E h' n' _ z => det_x z) (det_k ?_)
    rw [show inB (nI k) 0 5 = true from inB_k (N := 5) (by omega) (by decide +kernel)]
    show SW _ _ _ _ _ _ _ (.int 0 :: _) _ _ _
    refine sw_if_ne (pc' := 8) (tgt := 15) rfl dX5_walk_5 (by decide +kernel) (fun c5 => ?_) (fun c5 => ?_)
    · exact absurd c5 (by decide +kernel)
    · refine sw_iload_n (pc' := 9) rfl dX5_walk_8 rfl ?_
      refine sw_S (M' := MX5_isNone) (d' := d - 1) (bc' := 0) (bs' := 0) (as := [_]) dX5_walk_9 w_1165 ok_X5_isNone (q_isNone (by omega)) (by omega) (Nat.le_of_ble_eq_true rfl) (Nat.zero_le _) (Nat.zero_le _) (fun E h' n' _ z => det_x z) (det_k ?_)
      rw [show inB (nI j) 0 10 = true from inB_k (N := 10) (by omega) (by decide +kernel)]
      show SW _ _ _ _ _ _ _ (.int 0 :: _) _ _ _
      refine sw_if_eq (pc' := 15) (tgt := 19) rfl dX5_walk_12 (by decide +kernel) (fun c12 => ?_) (fun c12 => ?_)
      · refine sw_iconst (pc' := 20) (v := 0) rfl dX5_walk_19 (by decide +kernel) ?_
        refine sw_iload_n (pc' := 21) rfl dX5_walk_20 rfl ?_
        refine sw_iconst (pc' := 22) (v := 0) rfl dX5_walk_21 (by decide +kernel) ?_
        refine sw_iconst (pc' := 23) (v := 2) rfl dX5_walk_22 (by decide +kernel) ?_
        refine sw_S (M' := MX5_isIn) (d' := d - 1) (bc' := 0) (bs' := 0) (as := [_, _, _]) dX5_walk_23 w_1168 ok_X5_isIn (q_isIn) (by omega) (Nat.le_of_ble_eq_true rfl) (Nat.zero_le _) (Nat.zero_le _) (fun E h' n' _ z => det_x z) (det_k ?_)
        rw [show inB y 0 2 = true from inB_n qy]
        show SW _ _ _ _ _ _ _ (.int 1 :: _) _ _ _
        refine sw_if_eq (pc' := 29) (tgt := 38) rfl dX5_walk_26 (by decide +kernel) (fun c26 => ?_) (fun c26 => ?_)
        · exact absurd c26 (by decide +kernel)
        · refine sw_iload_n (pc' := 30) rfl dX5_walk_29 rfl ?_
          refine sw_iconst (pc' := 31) (v := 2) rfl dX5_walk_30 (by decide +kernel) ?_
          refine sw_icmp_ne (pc' := 34) (tgt := 42) rfl dX5_walk_31 (by decide +kernel) (fun c31 => ?_) (fun c31 => ?_)
          · exact absurd q2.1 c31
          · refine sw_iload_n (pc' := 35) rfl dX5_walk_34 rfl ?_
            refine sw_if_eq (pc' := 38) (tgt := 42) rfl dX5_walk_35 (by decide +kernel) (fun c35 => ?_) (fun c35 => ?_)
            · exact absurd c35 q2.2
            · refine sw_iconst (pc' := 39) (v := 1) rfl dX5_walk_38 (by decide +kernel) ?_
              refine sw_goto (tgt := 43) dX5_walk_39 (by decide +kernel) ?_
              refine sw_V (M' := MX5_isStopped_) (d' := d - 1) (bc' := 0) (bs' := 0) (ci := 6) (as := [_, _]) dX5_walk_43 w_1215 ok_X5_isStopped_ (q_isStopped2 (a := false) (b := true) hM hA (by omega)) hM.ob rfl (by omega) (Nat.le_of_ble_eq_true rfl) (Nat.zero_le _) (Nat.zero_le _) (fun E h' n' _ z => rp_x z) (rp_k (fun p43 p43ρ p43τ p43M p43A p43F => ?_))
              obtain ⟨Gp43, hGp43, eGp43⟩ := p43M.out
              show SW _ _ _ _ _ _ _ (.int 1 :: _) _ _ _
              refine sw_if_eq (pc' := 49) (tgt := 51) rfl dX5_walk_46 (by decide +kernel) (fun c46 => ?_) (fun c46 => ?_)
              · exact absurd c46 (by decide +kernel)
              · refine sw_iconst (pc' := 50) (v := 0) rfl dX5_walk_49 (by decide +kernel) ?_
                refine sw_ret (v := some _) ⟨dX5_walk_50, _, rfl, rfl⟩ ?_
                rw [opWalk, onWk_k hk, onSh_k hj, if_neg qy, if_pos q2]
                exact pm_x (tc_2 sAI) p43M p43A p43F (Nat.le_refl _)
      · exact absurd c12 (by decide +kernel)
  refine sw_aload_n (pc' := 1) rfl dX5_walk_0 rfl ?_
  refine sw_iload_n (pc' := 2) rfl dX5_walk_1 rfl ?_
  refine sw_S (M' := MX5_isNoWalk) (d' := d - 1) (bc' := 0) (bs' := 0) (as := [_]) dX5_walk_2 w_1306 ok_X5_isNoWalk (q_isNoWalk (by omega)) (by omega) (Nat.le_of_ble_eq_true rfl) (Nat.zero_le _) (Nat.zero_le _) (fun E h' n' _ z => det_x z) (det_k ?_)
  rw [show inB (nI k) 0 5 = true from inB_k (N := 5) (by omega) (by decide +kernel)]
  show SW _ _ _ _ _ _ _ (.int 0 :: _) _ _ _
  refine sw_if_ne (pc' := 8) (tgt := 15) rfl dX5_walk_5 (by decide +kernel) (fun c5 => ?_) (fun c5 => ?_)
  · exact absurd c5 (by decide +kernel)
  · refine sw_iload_n (pc' := 9) rfl dX5_walk_8 rfl ?_
    refine sw_S (M' := MX5_isNone) (d' := d - 1) (bc' := 0) (bs' := 0) (as := [_]) dX5_walk_9 w_1165 ok_X5_isNone (q_isNone (by omega)) (by omega) (Nat.le_of_ble_eq_true rfl) (Nat.zero_le _) (Nat.zero_le _) (fun E h' n' _ z => det_x z) (det_k ?_)
    rw [show inB (nI j) 0 10 = true from inB_k (N := 10) (by omega) (by decide +kernel)]
    show SW _ _ _ _ _ _ _ (.int 0 :: _) _ _ _
    refine sw_if_eq (pc' := 15) (tgt := 19) rfl dX5_walk_12 (by decide +kernel) (fun c12 => ?_) (fun c12 => ?_)
    · refine sw_iconst (pc' := 20) (v := 0) rfl dX5_walk_19 (by decide +kernel) ?_
      refine sw_iload_n (pc' := 21) rfl dX5_walk_20 rfl ?_
      refine sw_iconst (pc' := 22) (v := 0) rfl dX5_walk_21 (by decide +kernel) ?_
      refine sw_iconst (pc' := 23) (v := 2) rfl dX5_walk_22 (by decide +kernel) ?_
      refine sw_S (M' := MX5_isIn) (d' := d - 1) (bc' := 0) (bs' := 0) (as := [_, _, _]) dX5_walk_23 w_1168 ok_X5_isIn (q_isIn) (by omega) (Nat.le_of_ble_eq_true rfl) (Nat.zero_le _) (Nat.zero_le _) (fun E h' n' _ z => det_x z) (det_k ?_)
      rw [show inB y 0 2 = true from inB_n qy]
      show SW _ _ _ _ _ _ _ (.int 1 :: _) _ _ _
      refine sw_if_eq (pc' := 29) (tgt := 38) rfl dX5_walk_26 (by decide +kernel) (fun c26 => ?_) (fun c26 => ?_)
      · exact absurd c26 (by decide +kernel)
      · refine sw_iload_n (pc' := 30) rfl dX5_walk_29 rfl ?_
        refine sw_iconst (pc' := 31) (v := 2) rfl dX5_walk_30 (by decide +kernel) ?_
        refine sw_icmp_ne (pc' := 34) (tgt := 42) rfl dX5_walk_31 (by decide +kernel) (fun c31 => ?_) (fun c31 => ?_)
        · refine sw_iconst (pc' := 43) (v := 0) rfl dX5_walk_42 (by decide +kernel) ?_
          refine sw_V (M' := MX5_isStopped_) (d' := d - 1) (bc' := 0) (bs' := 0) (ci := 6) (as := [_, _]) dX5_walk_43 w_1215 ok_X5_isStopped_ (q_isStopped2 (a := false) (b := false) hM hA (by omega)) hM.ob rfl (by omega) (Nat.le_of_ble_eq_true rfl) (Nat.zero_le _) (Nat.zero_le _) (fun E h' n' _ z => rp_x z) (rp_k (fun p43 p43ρ p43τ p43M p43A p43F => ?_))
          obtain ⟨Gp43, hGp43, eGp43⟩ := p43M.out
          show SW _ _ _ _ _ _ _ (.int 0 :: _) _ _ _
          refine sw_if_eq (pc' := 49) (tgt := 51) rfl dX5_walk_46 (by decide +kernel) (fun c46 => ?_) (fun c46 => ?_)
          · refine sw_aload_n (pc' := 52) rfl dX5_walk_51 rfl ?_
            refine sw_getf (ci := 6) (k := 6) (pc' := 55) rfl dX5_walk_52 (by decide +kernel) w_1119 p43M.ob rfl ?_
            refine sw_iload_n (pc' := 56) rfl dX5_walk_55 rfl ?_
            refine sw_iload_n (pc' := 57) rfl dX5_walk_56 rfl ?_
            refine sw_iast (j := k) (pc' := 58) rfl dX5_walk_57 p43M.sh (by decide +kernel) rfl (by omega) (by decide +kernel) ?_
            refine sw_nm (fun g1 eg1 => ?_)
            have zg1 := (congrFun eg1 150).trans (up_s (h := p43) (i := 150))
            refine sw_aload_n (pc' := 59) rfl dX5_walk_58 rfl ?_
            refine sw_getf (ci := 6) (k := 7) (pc' := 62) rfl dX5_walk_59 (by decide +kernel) w_1120 (((congrFun eg1 135).trans (up_n (by omega))).trans p43M.ob) rfl ?_
            refine sw_iload_n (pc' := 63) rfl dX5_walk_62 rfl ?_
            refine sw_iload_n (pc' := 64) rfl dX5_walk_63 rfl ?_
            refine sw_iast (j := k) (pc' := 65) rfl dX5_walk_64 (((congrFun eg1 151).trans (up_n (by omega))).trans p43M.hw) (by decide +kernel) rfl (by omega) (by decide +kernel) ?_
            refine sw_nm (fun g2 eg2 => ?_)
            have zg2 := (congrFun eg2 151).trans (up_s (h := g1) (i := 151))
            refine sw_aload_n (pc' := 66) rfl dX5_walk_65 rfl ?_
            refine sw_getf (ci := 6) (k := 8) (pc' := 69) rfl dX5_walk_66 (by decide +kernel) w_1121 (((congrFun eg2 135).trans (up_n (by omega))).trans (((congrFun eg1 135).trans (up_n (by omega))).trans p43M.ob)) rfl ?_
            refine sw_iload_n (pc' := 70) rfl dX5_walk_69 rfl ?_
            refine sw_iconst (pc' := 71) (v := 0) rfl dX5_walk_70 (by decide +kernel) ?_
            refine sw_iast (j := k) (pc' := 72) rfl dX5_walk_71 (((congrFun eg2 152).trans (up_n (by omega))).trans (((congrFun eg1 152).trans (up_n (by omega))).trans p43M.gi)) (by decide +kernel) rfl (by omega) (by decide +kernel) ?_
            refine sw_nm (fun g3 eg3 => ?_)
            have zg3 := (congrFun eg3 152).trans (up_s (h := g2) (i := 152))
            refine sw_aload_n (pc' := 73) rfl dX5_walk_72 rfl ?_
            refine sw_getf (ci := 6) (k := 10) (pc' := 76) rfl dX5_walk_73 (by decide +kernel) w_1123 (((congrFun eg3 135).trans (up_n (by omega))).trans (((congrFun eg2 135).trans (up_n (by omega))).trans (((congrFun eg1 135).trans (up_n (by omega))).trans p43M.ob))) rfl ?_
            refine sw_iload_n (pc' := 77) rfl dX5_walk_76 rfl ?_
            refine sw_iconst (pc' := 78) (v := 0) rfl dX5_walk_77 (by decide +kernel) ?_
            refine sw_iast (j := k) (pc' := 79) rfl dX5_walk_78 (((congrFun eg3 154).trans (up_n (by omega))).trans (((congrFun eg2 154).trans (up_n (by omega))).trans (((congrFun eg1 154).trans (up_n (by omega))).trans p43M.pl))) (by decide +kernel) rfl (by omega) (by decide +kernel) ?_
            refine sw_nm (fun g4 eg4 => ?_)
            have zg4 := (congrFun eg4 154).trans (up_s (h := g3) (i := 154))
            refine sw_aload_n (pc' := 80) rfl dX5_walk_79 rfl ?_
            refine sw_getf (ci := 6) (k := 11) (pc' := 83) rfl dX5_walk_80 (by decide +kernel) w_1124 (((congrFun eg4 135).trans (up_n (by omega))).trans (((congrFun eg3 135).trans (up_n (by omega))).trans (((congrFun eg2 135).trans (up_n (by omega))).trans (((congrFun eg1 135).trans (up_n (by omega))).trans p43M.ob)))) rfl ?_
            refine sw_iload_n (pc' := 84) rfl dX5_walk_83 rfl ?_
            refine sw_iconst (pc' := 85) (v := 0) rfl dX5_walk_84 (by decide +kernel) ?_
            refine sw_zast (j := k) (pc' := 86) rfl dX5_walk_85 (((congrFun eg4 155).trans (up_n (by omega))).trans (((congrFun eg3 155).trans (up_n (by omega))).trans (((congrFun eg2 155).trans (up_n (by omega))).trans (((congrFun eg1 155).trans (up_n (by omega))).trans p43M.ct)))) (by decide +kernel) rfl (by omega) (by decide +kernel) ?_
            refine sw_nm (fun g5 eg5 => ?_)
            have zg5 := (congrFun eg5 155).trans (up_s (h := g4) (i := 155))
            refine sw_aload_n (pc' := 87) rfl dX5_walk_86 rfl ?_
            refine sw_getf (ci := 6) (k := 9) (pc' := 90) rfl dX5_walk_87 (by decide +kernel) w_1122 (((congrFun eg5 135).trans (up_n (by omega))).trans (((congrFun eg4 135).trans (up_n (by omega))).trans (((congrFun eg3 135).trans (up_n (by omega))).trans (((congrFun eg2 135).trans (up_n (by omega))).trans (((congrFun eg1 135).trans (up_n (by omega))).trans p43M.ob))))) rfl ?_
            refine sw_iload_n (pc' := 91) rfl dX5_walk_90 rfl ?_
            refine sw_aload_n (pc' := 92) rfl dX5_walk_91 rfl ?_
            refine sw_getf (ci := 6) (k := 5) (pc' := 95) rfl dX5_walk_92 (by decide +kernel) w_1118 (((congrFun eg5 135).trans (up_n (by omega))).trans (((congrFun eg4 135).trans (up_n (by omega))).trans (((congrFun eg3 135).trans (up_n (by omega))).trans (((congrFun eg2 135).trans (up_n (by omega))).trans (((congrFun eg1 135).trans (up_n (by omega))).trans p43M.ob))))) rfl ?_
            refine sw_iload_n (pc' := 96) rfl dX5_walk_95 rfl ?_
            refine sw_iald (j := j) (pc' := 97) rfl dX5_walk_96 (((congrFun eg5 149).trans (up_n (by omega))).trans (((congrFun eg4 149).trans (up_n (by omega))).trans (((congrFun eg3 149).trans (up_n (by omega))).trans (((congrFun eg2 149).trans (up_n (by omega))).trans (((congrFun eg1 149).trans (up_n (by omega))).trans p43M.sf))))) rfl (by omega) (by decide +kernel) ?_
            refine sw_iast (j := k) (pc' := 98) rfl dX5_walk_97 (((congrFun eg5 153).trans (up_n (by omega))).trans (((congrFun eg4 153).trans (up_n (by omega))).trans (((congrFun eg3 153).trans (up_n (by omega))).trans (((congrFun eg2 153).trans (up_n (by omega))).trans (((congrFun eg1 153).trans (up_n (by omega))).trans p43M.st))))) (by decide +kernel) rfl (by omega) (by decide +kernel) ?_
            refine sw_nm (fun g6 eg6 => ?_)
            have zg6 := (congrFun eg6 153).trans (up_s (h := g5) (i := 153))
            refine sw_aload_n (pc' := 99) rfl dX5_walk_98 rfl ?_
            refine sw_getf (ci := 6) (k := 4) (pc' := 102) rfl dX5_walk_99 (by decide +kernel) w_1117 (((congrFun eg6 135).trans (up_n (by omega))).trans (((congrFun eg5 135).trans (up_n (by omega))).trans (((congrFun eg4 135).trans (up_n (by omega))).trans (((congrFun eg3 135).trans (up_n (by omega))).trans (((congrFun eg2 135).trans (up_n (by omega))).trans (((congrFun eg1 135).trans (up_n (by omega))).trans p43M.ob)))))) rfl ?_
            refine sw_iload_n (pc' := 103) rfl dX5_walk_102 rfl ?_
            refine sw_iald (j := j) (pc' := 104) rfl dX5_walk_103 (((congrFun eg6 148).trans (up_n (by omega))).trans (((congrFun eg5 148).trans (up_n (by omega))).trans (((congrFun eg4 148).trans (up_n (by omega))).trans (((congrFun eg3 148).trans (up_n (by omega))).trans (((congrFun eg2 148).trans (up_n (by omega))).trans (((congrFun eg1 148).trans (up_n (by omega))).trans p43M.sz)))))) rfl (by omega) (by decide +kernel) ?_
            refine sw_ret (v := some _) ⟨dX5_walk_104, _, rfl, rfl⟩ ?_
            rw [opWalk, onWk_k hk, onSh_k hj, if_neg qy, if_neg q2]
            exact pm_k (p43M.walkU hk (((congrFun eg6 150).trans (up_n (by omega))).trans (((congrFun eg5 150).trans (up_n (by omega))).trans (((congrFun eg4 150).trans (up_n (by omega))).trans (((congrFun eg3 150).trans (up_n (by omega))).trans (((congrFun eg2 150).trans (up_n (by omega))).trans zg1))))) (((congrFun eg6 151).trans (up_n (by omega))).trans (((congrFun eg5 151).trans (up_n (by omega))).trans (((congrFun eg4 151).trans (up_n (by omega))).trans (((congrFun eg3 151).trans (up_n (by omega))).trans zg2)))) (((congrFun eg6 152).trans (up_n (by omega))).trans (((congrFun eg5 152).trans (up_n (by omega))).trans (((congrFun eg4 152).trans (up_n (by omega))).trans zg3))) zg6 (((congrFun eg6 154).trans (up_n (by omega))).trans (((congrFun eg5 154).trans (up_n (by omega))).trans zg4)) (((congrFun eg6 155).trans (up_n (by omega))).trans zg5) (fun i h1 => (congrFun eg6 i).trans ((up_n (by omega)).trans ((congrFun eg5 i).trans ((up_n (by omega)).trans ((congrFun eg4 i).trans ((up_n (by omega)).trans ((congrFun eg3 i).trans ((up_n (by omega)).trans ((congrFun eg2 i).trans ((up_n (by omega)).trans ((congrFun eg1 i).trans ((up_n (by omega)).trans (rfl)))))))))))))) (p43A.walkU) (p43F.tr (FrM.of1 (fun i q => (congrFun eg6 i).trans ((up_n (by omega)).trans ((congrFun eg5 i).trans ((up_n (by omega)).trans ((congrFun eg4 i).trans ((up_n (by omega)).trans ((congrFun eg3 i).trans ((up_n (by omega)).trans ((congrFun eg2 i).trans ((up_n (by omega)).trans ((congrFun eg1 i).trans ((up_n (by omega)).trans (rfl)))))))))))))) (Nat.le_refl _)) (Nat.le_refl _)
          · exact absurd c46 (by decide +kernel)
        · refine sw_iload_n (pc' := 35) rfl dX5_walk_34 rfl ?_
          refine sw_if_eq (pc' := 38) (tgt := 42) rfl dX5_walk_35 (by decide +kernel) (fun c35 => ?_) (fun c35 => ?_)
          · refine sw_iconst (pc' := 43) (v := 0) rfl dX5_walk_42 (by decide +kernel) ?_
            refine sw_V (M' := MX5_isStopped_) (d' := d - 1) (bc' := 0) (bs' := 0) (ci := 6) (as := [_, _]) dX5_walk_43 w_1215 ok_X5_isStopped_ (q_isStopped2 (a := false) (b := false) hM hA (by omega)) hM.ob rfl (by omega) (Nat.le_of_ble_eq_true rfl) (Nat.zero_le _) (Nat.zero_le _) (fun E h' n' _ z => rp_x z) (rp_k (fun p43 p43ρ p43τ p43M p43A p43F => ?_))
            obtain ⟨Gp43, hGp43, eGp43⟩ := p43M.out
            show SW _ _ _ _ _ _ _ (.int 0 :: _) _ _ _
            refine sw_if_eq (pc' := 49) (tgt := 51) rfl dX5_walk_46 (by decide +kernel) (fun c46 => ?_) (fun c46 => ?_)
            · refine sw_aload_n (pc' := 52) rfl dX5_walk_51 rfl ?_
              refine sw_getf (ci := 6) (k := 6) (pc' := 55) rfl dX5_walk_52 (by decide +kernel) w_1119 p43M.ob rfl ?_
              refine sw_iload_n (pc' := 56) rfl dX5_walk_55 rfl ?_
              refine sw_iload_n (pc' := 57) rfl dX5_walk_56 rfl ?_
              refine sw_iast (j := k) (pc' := 58) rfl dX5_walk_57 p43M.sh (by decide +kernel) rfl (by omega) (by decide +kernel) ?_
              refine sw_nm (fun g7 eg7 => ?_)
              have zg7 := (congrFun eg7 150).trans (up_s (h := p43) (i := 150))
              refine sw_aload_n (pc' := 59) rfl dX5_walk_58 rfl ?_
              refine sw_getf (ci := 6) (k := 7) (pc' := 62) rfl dX5_walk_59 (by decide +kernel) w_1120 (((congrFun eg7 135).trans (up_n (by omega))).trans p43M.ob) rfl ?_
              refine sw_iload_n (pc' := 63) rfl dX5_walk_62 rfl ?_
              refine sw_iload_n (pc' := 64) rfl dX5_walk_63 rfl ?_
              refine sw_iast (j := k) (pc' := 65) rfl dX5_walk_64 (((congrFun eg7 151).trans (up_n (by omega))).trans p43M.hw) (by decide +kernel) rfl (by omega) (by decide +kernel) ?_
              refine sw_nm (fun g8 eg8 => ?_)
              have zg8 := (congrFun eg8 151).trans (up_s (h := g7) (i := 151))
              refine sw_aload_n (pc' := 66) rfl dX5_walk_65 rfl ?_
              refine sw_getf (ci := 6) (k := 8) (pc' := 69) rfl dX5_walk_66 (by decide +kernel) w_1121 (((congrFun eg8 135).trans (up_n (by omega))).trans (((congrFun eg7 135).trans (up_n (by omega))).trans p43M.ob)) rfl ?_
              refine sw_iload_n (pc' := 70) rfl dX5_walk_69 rfl ?_
              refine sw_iconst (pc' := 71) (v := 0) rfl dX5_walk_70 (by decide +kernel) ?_
              refine sw_iast (j := k) (pc' := 72) rfl dX5_walk_71 (((congrFun eg8 152).trans (up_n (by omega))).trans (((congrFun eg7 152).trans (up_n (by omega))).trans p43M.gi)) (by decide +kernel) rfl (by omega) (by decide +kernel) ?_
              refine sw_nm (fun g9 eg9 => ?_)
              have zg9 := (congrFun eg9 152).trans (up_s (h := g8) (i := 152))
              refine sw_aload_n (pc' := 73) rfl dX5_walk_72 rfl ?_
              refine sw_getf (ci := 6) (k := 10) (pc' := 76) rfl dX5_walk_73 (by decide +kernel) w_1123 (((congrFun eg9 135).trans (up_n (by omega))).trans (((congrFun eg8 135).trans (up_n (by omega))).trans (((congrFun eg7 135).trans (up_n (by omega))).trans p43M.ob))) rfl ?_
              refine sw_iload_n (pc' := 77) rfl dX5_walk_76 rfl ?_
              refine sw_iconst (pc' := 78) (v := 0) rfl dX5_walk_77 (by decide +kernel) ?_
              refine sw_iast (j := k) (pc' := 79) rfl dX5_walk_78 (((congrFun eg9 154).trans (up_n (by omega))).trans (((congrFun eg8 154).trans (up_n (by omega))).trans (((congrFun eg7 154).trans (up_n (by omega))).trans p43M.pl))) (by decide +kernel) rfl (by omega) (by decide +kernel) ?_
              refine sw_nm (fun g10 eg10 => ?_)
              have zg10 := (congrFun eg10 154).trans (up_s (h := g9) (i := 154))
              refine sw_aload_n (pc' := 80) rfl dX5_walk_79 rfl ?_
              refine sw_getf (ci := 6) (k := 11) (pc' := 83) rfl dX5_walk_80 (by decide +kernel) w_1124 (((congrFun eg10 135).trans (up_n (by omega))).trans (((congrFun eg9 135).trans (up_n (by omega))).trans (((congrFun eg8 135).trans (up_n (by omega))).trans (((congrFun eg7 135).trans (up_n (by omega))).trans p43M.ob)))) rfl ?_
              refine sw_iload_n (pc' := 84) rfl dX5_walk_83 rfl ?_
              refine sw_iconst (pc' := 85) (v := 0) rfl dX5_walk_84 (by decide +kernel) ?_
              refine sw_zast (j := k) (pc' := 86) rfl dX5_walk_85 (((congrFun eg10 155).trans (up_n (by omega))).trans (((congrFun eg9 155).trans (up_n (by omega))).trans (((congrFun eg8 155).trans (up_n (by omega))).trans (((congrFun eg7 155).trans (up_n (by omega))).trans p43M.ct)))) (by decide +kernel) rfl (by omega) (by decide +kernel) ?_
              refine sw_nm (fun g11 eg11 => ?_)
              have zg11 := (congrFun eg11 155).trans (up_s (h := g10) (i := 155))
              refine sw_aload_n (pc' := 87) rfl dX5_walk_86 rfl ?_
              refine sw_getf (ci := 6) (k := 9) (pc' := 90) rfl dX5_walk_87 (by decide +kernel) w_1122 (((congrFun eg11 135).trans (up_n (by omega))).trans (((congrFun eg10 135).trans (up_n (by omega))).trans (((congrFun eg9 135).trans (up_n (by omega))).trans (((congrFun eg8 135).trans (up_n (by omega))).trans (((congrFun eg7 135).trans (up_n (by omega))).trans p43M.ob))))) rfl ?_
              refine sw_iload_n (pc' := 91) rfl dX5_walk_90 rfl ?_
              refine sw_aload_n (pc' := 92) rfl dX5_walk_91 rfl ?_
              refine sw_getf (ci := 6) (k := 5) (pc' := 95) rfl dX5_walk_92 (by decide +kernel) w_1118 (((congrFun eg11 135).trans (up_n (by omega))).trans (((congrFun eg10 135).trans (up_n (by omega))).trans (((congrFun eg9 135).trans (up_n (by omega))).trans (((congrFun eg8 135).trans (up_n (by omega))).trans (((congrFun eg7 135).trans (up_n (by omega))).trans p43M.ob))))) rfl ?_
              refine sw_iload_n (pc' := 96) rfl dX5_walk_95 rfl ?_
              refine sw_iald (j := j) (pc' := 97) rfl dX5_walk_96 (((congrFun eg11 149).trans (up_n (by omega))).trans (((congrFun eg10 149).trans (up_n (by omega))).trans (((congrFun eg9 149).trans (up_n (by omega))).trans (((congrFun eg8 149).trans (up_n (by omega))).trans (((congrFun eg7 149).trans (up_n (by omega))).trans p43M.sf))))) rfl (by omega) (by decide +kernel) ?_
              refine sw_iast (j := k) (pc' := 98) rfl dX5_walk_97 (((congrFun eg11 153).trans (up_n (by omega))).trans (((congrFun eg10 153).trans (up_n (by omega))).trans (((congrFun eg9 153).trans (up_n (by omega))).trans (((congrFun eg8 153).trans (up_n (by omega))).trans (((congrFun eg7 153).trans (up_n (by omega))).trans p43M.st))))) (by decide +kernel) rfl (by omega) (by decide +kernel) ?_
              refine sw_nm (fun g12 eg12 => ?_)
              have zg12 := (congrFun eg12 153).trans (up_s (h := g11) (i := 153))
              refine sw_aload_n (pc' := 99) rfl dX5_walk_98 rfl ?_
              refine sw_getf (ci := 6) (k := 4) (pc' := 102) rfl dX5_walk_99 (by decide +kernel) w_1117 (((congrFun eg12 135).trans (up_n (by omega))).trans (((congrFun eg11 135).trans (up_n (by omega))).trans (((congrFun eg10 135).trans (up_n (by omega))).trans (((congrFun eg9 135).trans (up_n (by omega))).trans (((congrFun eg8 135).trans (up_n (by omega))).trans (((congrFun eg7 135).trans (up_n (by omega))).trans p43M.ob)))))) rfl ?_
              refine sw_iload_n (pc' := 103) rfl dX5_walk_102 rfl ?_
              refine sw_iald (j := j) (pc' := 104) rfl dX5_walk_103 (((congrFun eg12 148).trans (up_n (by omega))).trans (((congrFun eg11 148).trans (up_n (by omega))).trans (((congrFun eg10 148).trans (up_n (by omega))).trans (((congrFun eg9 148).trans (up_n (by omega))).trans (((congrFun eg8 148).trans (up_n (by omega))).trans (((congrFun eg7 148).trans (up_n (by omega))).trans p43M.sz)))))) rfl (by omega) (by decide +kernel) ?_
              refine sw_ret (v := some _) ⟨dX5_walk_104, _, rfl, rfl⟩ ?_
              rw [opWalk, onWk_k hk, onSh_k hj, if_neg qy, if_neg q2]
              exact pm_k (p43M.walkU hk (((congrFun eg12 150).trans (up_n (by omega))).trans (((congrFun eg11 150).trans (up_n (by omega))).trans (((congrFun eg10 150).trans (up_n (by omega))).trans (((congrFun eg9 150).trans (up_n (by omega))).trans (((congrFun eg8 150).trans (up_n (by omega))).trans zg7))))) (((congrFun eg12 151).trans (up_n (by omega))).trans (((congrFun eg11 151).trans (up_n (by omega))).trans (((congrFun eg10 151).trans (up_n (by omega))).trans (((congrFun eg9 151).trans (up_n (by omega))).trans zg8)))) (((congrFun eg12 152).trans (up_n (by omega))).trans (((congrFun eg11 152).trans (up_n (by omega))).trans (((congrFun eg10 152).trans (up_n (by omega))).trans zg9))) zg12 (((congrFun eg12 154).trans (up_n (by omega))).trans (((congrFun eg11 154).trans (up_n (by omega))).trans zg10)) (((congrFun eg12 155).trans (up_n (by omega))).trans zg11) (fun i h1 => (congrFun eg12 i).trans ((up_n (by omega)).trans ((congrFun eg11 i).trans ((up_n (by omega)).trans ((congrFun eg10 i).trans ((up_n (by omega)).trans ((congrFun eg9 i).trans ((up_n (by omega)).trans ((congrFun eg8 i).trans ((up_n (by omega)).trans ((congrFun eg7 i).trans ((up_n (by omega)).trans (rfl)))))))))))))) (p43A.walkU) (p43F.tr (FrM.of1 (fun i q => (congrFun eg12 i).trans ((up_n (by omega)).trans ((congrFun eg11 i).trans ((up_n (by omega)).trans ((congrFun eg10 i).trans ((up_n (by omega)).trans ((congrFun eg9 i).trans ((up_n (by omega)).trans ((congrFun eg8 i).trans ((up_n (by omega)).trans ((congrFun eg7 i).trans ((up_n (by omega)).trans (rfl)))))))))))))) (Nat.le_refl _)) (Nat.le_refl _)
            · exact absurd c46 (by decide +kernel)
          · exact absurd ⟨c31, c35⟩ q2
    · exact absurd c12 (by decide +kernel)
theorem q_next {h : AH} {d bc bs n : Nat} {σ : CS} {th : Int32} {a : Int32} (hR : RMo h σ th) (hI : Iv σ) (hn : 159 ≤ n) (hd : 8 ≤ d) (h1 : 1 ≤ bc) (h2 : 12 ≤ bs)  : SM SR0 MX5_next d bc bs [.ref 135, .int a] h n (PM h n (tc sI sS) (opNext σ a)) := by
  obtain ⟨ρ, τ, hM, hA⟩ := hR
  obtain ⟨G0, hG0, eG0⟩ := hM.out
  refine sm_of pn_OverwalksModel rfl (Nat.le_of_ble_eq_true rfl) ?_
  rcases idxN 6 (by decide +kernel) a with qk1 | ⟨k, hk, rfl⟩
  · refine sw_aload_n (pc' := 1) rfl dX5_next_0 rfl ?_
    refine sw_iload_n (pc' := 2) rfl dX5_next_1 rfl ?_
    refine sw_S (M' := MX5_isNoWalk) (d' := d - 1) (bc' := 0) (bs' := 0) (as := [_]) dX5_next_2 w_1306 ok_X5_isNoWalk (q_isNoWalk (by omega)) (by omega) (Nat.le_of_ble_eq_true rfl) (Nat.zero_le _) (Nat.zero_le _) (fun E h' n' _ z => det_x z) (det_k ?_)
    rw [show inB a 0 5 = false from no_x (N := 5) (by decide +kernel) qk1]
    show SW _ _ _ _ _ _ _ (.int 1 :: _) _ _ _
    refine sw_aload_n (pc' := 6) rfl dX5_next_5 rfl ?_
    refine sw_iload_n (pc' := 7) rfl dX5_next_6 rfl ?_
    refine sw_V (M' := MX5_isUnmade) (d' := d - 1) (bc' := 0) (bs' := 0) (ci := 6) (as := [_]) dX5_next_7 w_1313 ok_X5_isUnmade (q_isUnmade_x hM (no_x (N := 5) (by decide +kernel) qk1) (by omega)) hM.ob rfl (by omega) (Nat.le_of_ble_eq_true rfl) (Nat.zero_le _) (Nat.zero_le _) (fun E h' n' _ z => det_x z) (det_k ?_)
    refine sw_V (M' := MX5_isStopped_) (d' := d - 1) (bc' := 0) (bs' := 0) (ci := 6) (as := [_, _]) dX5_next_10 w_1215 ok_X5_isStopped_ (q_isStopped2 (a := true) (b := false) hM hA (by omega)) hM.ob rfl (by omega) (Nat.le_of_ble_eq_true rfl) (Nat.zero_le _) (Nat.zero_le _) (fun E h' n' _ z => rp_x z) (rp_k (fun p10 p10ρ p10τ p10M p10A p10F => ?_))
    obtain ⟨Gp10, hGp10, eGp10⟩ := p10M.out
    show SW _ _ _ _ _ _ _ (.int 1 :: _) _ _ _
    refine sw_if_eq (pc' := 16) (tgt := 18) rfl dX5_next_13 (by decide +kernel) (fun c13 => ?_) (fun c13 => ?_)
    · exact absurd c13 (by decide +kernel)
    · refine sw_iconst (pc' := 17) (v := 0) rfl dX5_next_16 (by decide +kernel) ?_
      refine sw_ret (v := some _) ⟨dX5_next_17, _, rfl, rfl⟩ ?_
      rw [opNext, onWk_x qk1]
      exact pm_x tc_1 p10M p10A p10F (Nat.le_refl _)
  have ovk := hI.2.2.2.2.2.2.1 k hk
  have hcwk := hI.1 _ ovk
  rcases Classical.em ((σ.2.2.2.2.1 k).1 = false) with qm | qm
  · refine sw_aload_n (pc' := 1) rfl dX5_next_0 rfl ?_
    refine sw_iload_n (pc' := 2) rfl dX5_next_1 rfl ?_
    refine sw_S (M' := MX5_isNoWalk) (d' := d - 1) (bc' := 0) (bs' := 0) (as := [_]) dX5_next_2 w_1306 ok_X5_isNoWalk (q_isNoWalk (by omega)) (by omega) (Nat.le_of_ble_eq_true rfl) (Nat.zero_le _) (Nat.zero_le _) (fun E h' n' _ z => det_x z) (det_k ?_)
    rw [show inB (nI k) 0 5 = true from inB_k (N := 5) (by omega) (by decide +kernel)]
    show SW _ _ _ _ _ _ _ (.int 0 :: _) _ _ _
    refine sw_aload_n (pc' := 6) rfl dX5_next_5 rfl ?_
    refine sw_iload_n (pc' := 7) rfl dX5_next_6 rfl ?_
    refine sw_V (M' := MX5_isUnmade) (d' := d - 1) (bc' := 0) (bs' := 0) (ci := 6) (as := [_]) dX5_next_7 w_1313 ok_X5_isUnmade (q_isUnmade_k hM (k := k) (by omega) (hI.2.2.2.2.2.2.1 k (by omega)) (by omega)) hM.ob rfl (by omega) (Nat.le_of_ble_eq_true rfl) (Nat.zero_le _) (Nat.zero_le _) (fun E h' n' _ z => det_x z) (det_k ?_)
    rw [show (σ.2.2.2.2.1 k).1 = false from qm]
    show SW _ _ _ _ _ _ _ (.int 1 :: _) _ _ _
    refine sw_V (M' := MX5_isStopped_) (d' := d - 1) (bc' := 0) (bs' := 0) (ci := 6) (as := [_, _]) dX5_next_10 w_1215 ok_X5_isStopped_ (q_isStopped2 (a := false) (b := true) hM hA (by omega)) hM.ob rfl (by omega) (Nat.le_of_ble_eq_true rfl) (Nat.zero_le _) (Nat.zero_le _) (fun E h' n' _ z => rp_x z) (rp_k (fun p10 p10ρ p10τ p10M p10A p10F => ?_))
    obtain ⟨Gp10, hGp10, eGp10⟩ := p10M.out
    show SW _ _ _ _ _ _ _ (.int 1 :: _) _ _ _
    refine sw_if_eq (pc' := 16) (tgt := 18) rfl dX5_next_13 (by decide +kernel) (fun c13 => ?_) (fun c13 => ?_)
    · exact absurd c13 (by decide +kernel)
    · refine sw_iconst (pc' := 17) (v := 0) rfl dX5_next_16 (by decide +kernel) ?_
      refine sw_ret (v := some _) ⟨dX5_next_17, _, rfl, rfl⟩ ?_
      rw [opNext, onWk_k hk, if_pos qm]
      exact pm_x (tc_2 sSI) p10M p10A p10F (Nat.le_refl _)
  refine sw_aload_n (pc' := 1) rfl dX5_next_0 rfl ?_
  refine sw_iload_n (pc' := 2) rfl dX5_next_1 rfl ?_
  refine sw_S (M' := MX5_isNoWalk) (d' := d - 1) (bc' := 0) (bs' := 0) (as := [_]) dX5_next_2 w_1306 ok_X5_isNoWalk (q_isNoWalk (by omega)) (by omega) (Nat.le_of_ble_eq_true rfl) (Nat.zero_le _) (Nat.zero_le _) (fun E h' n' _ z => det_x z) (det_k ?_)
  rw [show inB (nI k) 0 5 = true from inB_k (N := 5) (by omega) (by decide +kernel)]
  show SW _ _ _ _ _ _ _ (.int 0 :: _) _ _ _
  refine sw_aload_n (pc' := 6) rfl dX5_next_5 rfl ?_
  refine sw_iload_n (pc' := 7) rfl dX5_next_6 rfl ?_
  refine sw_V (M' := MX5_isUnmade) (d' := d - 1) (bc' := 0) (bs' := 0) (ci := 6) (as := [_]) dX5_next_7 w_1313 ok_X5_isUnmade (q_isUnmade_k hM (k := k) (by omega) (hI.2.2.2.2.2.2.1 k (by omega)) (by omega)) hM.ob rfl (by omega) (Nat.le_of_ble_eq_true rfl) (Nat.zero_le _) (Nat.zero_le _) (fun E h' n' _ z => det_x z) (det_k ?_)
  rw [show (σ.2.2.2.2.1 k).1 = true from (mkT qm)]
  show SW _ _ _ _ _ _ _ (.int 0 :: _) _ _ _
  refine sw_V (M' := MX5_isStopped_) (d' := d - 1) (bc' := 0) (bs' := 0) (ci := 6) (as := [_, _]) dX5_next_10 w_1215 ok_X5_isStopped_ (q_isStopped2 (a := false) (b := false) hM hA (by omega)) hM.ob rfl (by omega) (Nat.le_of_ble_eq_true rfl) (Nat.zero_le _) (Nat.zero_le _) (fun E h' n' _ z => rp_x z) (rp_k (fun p10 p10ρ p10τ p10M p10A p10F => ?_))
  obtain ⟨Gp10, hGp10, eGp10⟩ := p10M.out
  show SW _ _ _ _ _ _ _ (.int 0 :: _) _ _ _
  refine sw_if_eq (pc' := 16) (tgt := 18) rfl dX5_next_13 (by decide +kernel) (fun c13 => ?_) (fun c13 => ?_)
  · refine sw_aload_n (pc' := 19) rfl dX5_next_18 rfl ?_
    refine sw_iload_n (pc' := 20) rfl dX5_next_19 rfl ?_
    refine sw_V (M' := MX5_isStale) (d' := d - 1) (bc' := 0) (bs' := 0) (ci := 6) (as := [_]) dX5_next_20 w_1317 ok_X5_isStale (q_isStale p10M (k := k) (by omega) (mkT qm) (hI.2.2.2.2.2.2.1 k (by omega))) p10M.ob rfl (by omega) (Nat.le_of_ble_eq_true rfl) (Nat.zero_le _) (Nat.zero_le _) (fun E h' n' _ z => det_x z) (det_k ?_)
    refine sw_if_ne (pc' := 26) (tgt := 34) rfl dX5_next_23 (by decide +kernel) (fun c23 => ?_) (fun c23 => ?_)
    · refine sw_aload_n (pc' := 35) rfl dX5_next_34 rfl ?_
      refine sw_V (M' := MX5_no) (d' := d - 1) (bc' := 0) (bs' := 0) (ci := 6) (as := []) dX5_next_35 w_1184 ok_X5_no (q_no p10M p10A) p10M.ob rfl (by omega) (Nat.le_of_ble_eq_true rfl) (Nat.zero_le _) (Nat.zero_le _) (fun E h' n' _ z => rp_x z) (rp_k (fun p35 p35ρ p35τ p35M p35A p35F => ?_))
      obtain ⟨Gp35, hGp35, eGp35⟩ := p35M.out
      refine sw_goto (tgt := 46) dX5_next_38 (by decide +kernel) ?_
      refine sw_ret (v := some _) ⟨dX5_next_46, _, rfl, rfl⟩ ?_
      rw [opNext, onWk_k hk, if_neg qm, if_pos (wHM_s (bI_1 c23))]
      exact pm_k p35M p35A (p10F.tr p35F (Nat.le_refl _)) (Nat.le_refl _)
    · refine sw_aload_n (pc' := 27) rfl dX5_next_26 rfl ?_
      refine sw_iload_n (pc' := 28) rfl dX5_next_27 rfl ?_
      refine sw_V (M' := MX5_hasMore) (d' := d - 1) (bc' := 0) (bs' := 0) (ci := 6) (as := [_]) dX5_next_28 w_1321 ok_X5_hasMore (q_hasMore p10M (k := k) (by omega) (mkT qm) (hI.2.2.2.2.2.2.1 k (by omega))) p10M.ob rfl (by omega) (Nat.le_of_ble_eq_true rfl) (Nat.zero_le _) (Nat.zero_le _) (fun E h' n' _ z => det_x z) (det_k ?_)
      refine sw_if_ne (pc' := 34) (tgt := 41) rfl dX5_next_31 (by decide +kernel) (fun c31 => ?_) (fun c31 => ?_)
      · obtain ⟨A, eA, hA1, hA2⟩ := hI.2.2.2.2.2.2.2 k hk (mkT qm) (bI_0 c23)
        have hA3 : A < σ.2.1 (wO σ k) := (nI_ltI (by omega) (by omega)).mp (eA ▸ of_decide_eq_true (bI_1 c31))
        refine sw_aload_n (pc' := 42) rfl dX5_next_41 rfl ?_
        refine sw_iload_n (pc' := 43) rfl dX5_next_42 rfl ?_
        refine sw_V (M' := MX5_give) (d' := d - 1) (bc' := 0) (bs' := 0) (ci := 6) (as := [_]) dX5_next_43 w_1325 ok_X5_give (q_give p10M p10A (k := k) (by omega) (mkT qm) (hI.2.2.2.2.2.2.1 k (by omega)) (hI.1 _ (hI.2.2.2.2.2.2.1 k (by omega))) eA hA3) p10M.ob rfl (by omega) (Nat.le_of_ble_eq_true rfl) (Nat.zero_le _) (Nat.zero_le _) (fun E h' n' _ z => rp_x z) (rp_k (fun p43 p43ρ p43τ p43M p43A p43F => ?_))
        obtain ⟨Gp43, hGp43, eGp43⟩ := p43M.out
        refine sw_ret (v := some _) ⟨dX5_next_46, _, rfl, rfl⟩ ?_
        rw [opNext, onWk_k hk, if_neg qm, if_neg (wHM_t (bI_0 c23) (bI_1 c31)), eA, taI_in hA3 hcwk]
        exact pm_k p43M p43A (p10F.tr p43F (Nat.le_refl _)) (Nat.le_refl _)
      · refine sw_aload_n (pc' := 35) rfl dX5_next_34 rfl ?_
        refine sw_V (M' := MX5_no) (d' := d - 1) (bc' := 0) (bs' := 0) (ci := 6) (as := []) dX5_next_35 w_1184 ok_X5_no (q_no p10M p10A) p10M.ob rfl (by omega) (Nat.le_of_ble_eq_true rfl) (Nat.zero_le _) (Nat.zero_le _) (fun E h' n' _ z => rp_x z) (rp_k (fun p35 p35ρ p35τ p35M p35A p35F => ?_))
        obtain ⟨Gp35, hGp35, eGp35⟩ := p35M.out
        refine sw_goto (tgt := 46) dX5_next_38 (by decide +kernel) ?_
        refine sw_ret (v := some _) ⟨dX5_next_46, _, rfl, rfl⟩ ?_
        rw [opNext, onWk_k hk, if_neg qm, if_pos (wHM_f (bI_0 c23) (bI_0 c31))]
        exact pm_k p35M p35A (p10F.tr p35F (Nat.le_refl _)) (Nat.le_refl _)
  · exact absurd c13 (by decide +kernel)
theorem q_more {h : AH} {d bc bs n : Nat} {σ : CS} {th : Int32} {a : Int32} (hR : RMo h σ th) (hI : Iv σ) (hn : 159 ≤ n) (hd : 8 ≤ d) (h1 : 1 ≤ bc) (h2 : 12 ≤ bs)  : SM SR0 MX5_more d bc bs [.ref 135, .int a] h n (PM h n (tc sI sS) (opMore σ a)) := by
  obtain ⟨ρ, τ, hM, hA⟩ := hR
  obtain ⟨G0, hG0, eG0⟩ := hM.out
  refine sm_of pn_OverwalksModel rfl (Nat.le_of_ble_eq_true rfl) ?_
  rcases idxN 6 (by decide +kernel) a with qk1 | ⟨k, hk, rfl⟩
  · refine sw_aload_n (pc' := 1) rfl dX5_more_0 rfl ?_
    refine sw_iload_n (pc' := 2) rfl dX5_more_1 rfl ?_
    refine sw_S (M' := MX5_isNoWalk) (d' := d - 1) (bc' := 0) (bs' := 0) (as := [_]) dX5_more_2 w_1306 ok_X5_isNoWalk (q_isNoWalk (by omega)) (by omega) (Nat.le_of_ble_eq_true rfl) (Nat.zero_le _) (Nat.zero_le _) (fun E h' n' _ z => det_x z) (det_k ?_)
    rw [show inB a 0 5 = false from no_x (N := 5) (by decide +kernel) qk1]
    show SW _ _ _ _ _ _ _ (.int 1 :: _) _ _ _
    refine sw_aload_n (pc' := 6) rfl dX5_more_5 rfl ?_
    refine sw_iload_n (pc' := 7) rfl dX5_more_6 rfl ?_
    refine sw_V (M' := MX5_isUnmade) (d' := d - 1) (bc' := 0) (bs' := 0) (ci := 6) (as := [_]) dX5_more_7 w_1313 ok_X5_isUnmade (q_isUnmade_x hM (no_x (N := 5) (by decide +kernel) qk1) (by omega)) hM.ob rfl (by omega) (Nat.le_of_ble_eq_true rfl) (Nat.zero_le _) (Nat.zero_le _) (fun E h' n' _ z => det_x z) (det_k ?_)
    refine sw_V (M' := MX5_isStopped_) (d' := d - 1) (bc' := 0) (bs' := 0) (ci := 6) (as := [_, _]) dX5_more_10 w_1215 ok_X5_isStopped_ (q_isStopped2 (a := true) (b := false) hM hA (by omega)) hM.ob rfl (by omega) (Nat.le_of_ble_eq_true rfl) (Nat.zero_le _) (Nat.zero_le _) (fun E h' n' _ z => rp_x z) (rp_k (fun p10 p10ρ p10τ p10M p10A p10F => ?_))
    obtain ⟨Gp10, hGp10, eGp10⟩ := p10M.out
    show SW _ _ _ _ _ _ _ (.int 1 :: _) _ _ _
    refine sw_if_eq (pc' := 16) (tgt := 18) rfl dX5_more_13 (by decide +kernel) (fun c13 => ?_) (fun c13 => ?_)
    · exact absurd c13 (by decide +kernel)
    · refine sw_iconst (pc' := 17) (v := 0) rfl dX5_more_16 (by decide +kernel) ?_
      refine sw_ret (v := some _) ⟨dX5_more_17, _, rfl, rfl⟩ ?_
      rw [opMore, onWk_x qk1]
      exact pm_x tc_1 p10M p10A p10F (Nat.le_refl _)
  have ovk := hI.2.2.2.2.2.2.1 k hk
  have hcwk := hI.1 _ ovk
  rcases Classical.em ((σ.2.2.2.2.1 k).1 = false) with qm | qm
  · refine sw_aload_n (pc' := 1) rfl dX5_more_0 rfl ?_
    refine sw_iload_n (pc' := 2) rfl dX5_more_1 rfl ?_
    refine sw_S (M' := MX5_isNoWalk) (d' := d - 1) (bc' := 0) (bs' := 0) (as := [_]) dX5_more_2 w_1306 ok_X5_isNoWalk (q_isNoWalk (by omega)) (by omega) (Nat.le_of_ble_eq_true rfl) (Nat.zero_le _) (Nat.zero_le _) (fun E h' n' _ z => det_x z) (det_k ?_)
    rw [show inB (nI k) 0 5 = true from inB_k (N := 5) (by omega) (by decide +kernel)]
    show SW _ _ _ _ _ _ _ (.int 0 :: _) _ _ _
    refine sw_aload_n (pc' := 6) rfl dX5_more_5 rfl ?_
    refine sw_iload_n (pc' := 7) rfl dX5_more_6 rfl ?_
    refine sw_V (M' := MX5_isUnmade) (d' := d - 1) (bc' := 0) (bs' := 0) (ci := 6) (as := [_]) dX5_more_7 w_1313 ok_X5_isUnmade (q_isUnmade_k hM (k := k) (by omega) (hI.2.2.2.2.2.2.1 k (by omega)) (by omega)) hM.ob rfl (by omega) (Nat.le_of_ble_eq_true rfl) (Nat.zero_le _) (Nat.zero_le _) (fun E h' n' _ z => det_x z) (det_k ?_)
    rw [show (σ.2.2.2.2.1 k).1 = false from qm]
    show SW _ _ _ _ _ _ _ (.int 1 :: _) _ _ _
    refine sw_V (M' := MX5_isStopped_) (d' := d - 1) (bc' := 0) (bs' := 0) (ci := 6) (as := [_, _]) dX5_more_10 w_1215 ok_X5_isStopped_ (q_isStopped2 (a := false) (b := true) hM hA (by omega)) hM.ob rfl (by omega) (Nat.le_of_ble_eq_true rfl) (Nat.zero_le _) (Nat.zero_le _) (fun E h' n' _ z => rp_x z) (rp_k (fun p10 p10ρ p10τ p10M p10A p10F => ?_))
    obtain ⟨Gp10, hGp10, eGp10⟩ := p10M.out
    show SW _ _ _ _ _ _ _ (.int 1 :: _) _ _ _
    refine sw_if_eq (pc' := 16) (tgt := 18) rfl dX5_more_13 (by decide +kernel) (fun c13 => ?_) (fun c13 => ?_)
    · exact absurd c13 (by decide +kernel)
    · refine sw_iconst (pc' := 17) (v := 0) rfl dX5_more_16 (by decide +kernel) ?_
      refine sw_ret (v := some _) ⟨dX5_more_17, _, rfl, rfl⟩ ?_
      rw [opMore, onWk_k hk, if_pos qm]
      exact pm_x (tc_2 sSI) p10M p10A p10F (Nat.le_refl _)
  refine sw_aload_n (pc' := 1) rfl dX5_more_0 rfl ?_
  refine sw_iload_n (pc' := 2) rfl dX5_more_1 rfl ?_
  refine sw_S (M' := MX5_isNoWalk) (d' := d - 1) (bc' := 0) (bs' := 0) (as := [_]) dX5_more_2 w_1306 ok_X5_isNoWalk (q_isNoWalk (by omega)) (by omega) (Nat.le_of_ble_eq_true rfl) (Nat.zero_le _) (Nat.zero_le _) (fun E h' n' _ z => det_x z) (det_k ?_)
  rw [show inB (nI k) 0 5 = true from inB_k (N := 5) (by omega) (by decide +kernel)]
  show SW _ _ _ _ _ _ _ (.int 0 :: _) _ _ _
  refine sw_aload_n (pc' := 6) rfl dX5_more_5 rfl ?_
  refine sw_iload_n (pc' := 7) rfl dX5_more_6 rfl ?_
  refine sw_V (M' := MX5_isUnmade) (d' := d - 1) (bc' := 0) (bs' := 0) (ci := 6) (as := [_]) dX5_more_7 w_1313 ok_X5_isUnmade (q_isUnmade_k hM (k := k) (by omega) (hI.2.2.2.2.2.2.1 k (by omega)) (by omega)) hM.ob rfl (by omega) (Nat.le_of_ble_eq_true rfl) (Nat.zero_le _) (Nat.zero_le _) (fun E h' n' _ z => det_x z) (det_k ?_)
  rw [show (σ.2.2.2.2.1 k).1 = true from (mkT qm)]
  show SW _ _ _ _ _ _ _ (.int 0 :: _) _ _ _
  refine sw_V (M' := MX5_isStopped_) (d' := d - 1) (bc' := 0) (bs' := 0) (ci := 6) (as := [_, _]) dX5_more_10 w_1215 ok_X5_isStopped_ (q_isStopped2 (a := false) (b := false) hM hA (by omega)) hM.ob rfl (by omega) (Nat.le_of_ble_eq_true rfl) (Nat.zero_le _) (Nat.zero_le _) (fun E h' n' _ z => rp_x z) (rp_k (fun p10 p10ρ p10τ p10M p10A p10F => ?_))
  obtain ⟨Gp10, hGp10, eGp10⟩ := p10M.out
  show SW _ _ _ _ _ _ _ (.int 0 :: _) _ _ _
  refine sw_if_eq (pc' := 16) (tgt := 18) rfl dX5_more_13 (by decide +kernel) (fun c13 => ?_) (fun c13 => ?_)
  · refine sw_aload_n (pc' := 19) rfl dX5_more_18 rfl ?_
    refine sw_iload_n (pc' := 20) rfl dX5_more_19 rfl ?_
    refine sw_V (M' := MX5_isStale) (d' := d - 1) (bc' := 0) (bs' := 0) (ci := 6) (as := [_]) dX5_more_20 w_1317 ok_X5_isStale (q_isStale p10M (k := k) (by omega) (mkT qm) (hI.2.2.2.2.2.2.1 k (by omega))) p10M.ob rfl (by omega) (Nat.le_of_ble_eq_true rfl) (Nat.zero_le _) (Nat.zero_le _) (fun E h' n' _ z => det_x z) (det_k ?_)
    refine sw_if_eq (pc' := 26) (tgt := 33) rfl dX5_more_23 (by decide +kernel) (fun c23 => ?_) (fun c23 => ?_)
    · refine sw_aload_n (pc' := 34) rfl dX5_more_33 rfl ?_
      refine sw_iload_n (pc' := 35) rfl dX5_more_34 rfl ?_
      refine sw_V (M' := MX5_hasMore) (d' := d - 1) (bc' := 0) (bs' := 0) (ci := 6) (as := [_]) dX5_more_35 w_1321 ok_X5_hasMore (q_hasMore p10M (k := k) (by omega) (mkT qm) (hI.2.2.2.2.2.2.1 k (by omega))) p10M.ob rfl (by omega) (Nat.le_of_ble_eq_true rfl) (Nat.zero_le _) (Nat.zero_le _) (fun E h' n' _ z => det_x z) (det_k ?_)
      refine sw_S (M' := MX5_one) (d' := d - 1) (bc' := 0) (bs' := 0) (as := [_]) dX5_more_38 w_1196 ok_X5_one (q_one (q := (decide (wAh σ k < nI (σ.2.1 (wO σ k)))))) (by omega) (Nat.le_of_ble_eq_true rfl) (Nat.zero_le _) (Nat.zero_le _) (fun E h' n' _ z => det_x z) (det_k ?_)
      refine sw_ret (v := some _) ⟨dX5_more_41, _, rfl, rfl⟩ ?_
      rw [opMore, onWk_k hk, if_neg qm, if_neg (fun e => Bool.noConfusion (e.symm.trans (bI_0 c23))), wHM_m (bI_0 c23)]
      exact pm_k p10M p10A p10F (Nat.le_refl _)
    · refine sw_aload_n (pc' := 27) rfl dX5_more_26 rfl ?_
      refine sw_V (M' := MX5_no) (d' := d - 1) (bc' := 0) (bs' := 0) (ci := 6) (as := []) dX5_more_27 w_1184 ok_X5_no (q_no p10M p10A) p10M.ob rfl (by omega) (Nat.le_of_ble_eq_true rfl) (Nat.zero_le _) (Nat.zero_le _) (fun E h' n' _ z => rp_x z) (rp_k (fun p27 p27ρ p27τ p27M p27A p27F => ?_))
      obtain ⟨Gp27, hGp27, eGp27⟩ := p27M.out
      refine sw_goto (tgt := 41) dX5_more_30 (by decide +kernel) ?_
      refine sw_ret (v := some _) ⟨dX5_more_41, _, rfl, rfl⟩ ?_
      rw [opMore, onWk_k hk, if_neg qm, if_pos (bI_1 c23)]
      exact pm_k p27M p27A (p10F.tr p27F (Nat.le_refl _)) (Nat.le_refl _)
  · exact absurd c13 (by decide +kernel)
theorem q_keep {h : AH} {d bc bs n : Nat} {σ : CS} {th : Int32} {a b : Int32} (hR : RMo h σ th) (hI : Iv σ) (hn : 159 ≤ n) (hd : 8 ≤ d) (h1 : 1 ≤ bc) (h2 : 12 ≤ bs)  : SM SR0 MX5_keep d bc bs [.ref 135, .int a, .int b] h n (PM h n (tc sI sI) (opKeep σ a b)) := by
  obtain ⟨ρ, τ, hM, hA⟩ := hR
  obtain ⟨G0, hG0, eG0⟩ := hM.out
  refine sm_of pn_OverwalksModel rfl (Nat.le_of_ble_eq_true rfl) ?_
  rcases Classical.em (a < 8) with qk | qk
  · refine sw_aload_n (pc' := 1) rfl dX5_keep_0 rfl ?_
    refine sw_iload_n (pc' := 2) rfl dX5_keep_1 rfl ?_
    refine sw_S (M' := MX5_isNoList) (d' := d - 1) (bc' := 0) (bs' := 0) (as := [_]) dX5_keep_2 w_1368 ok_X5_isNoList (q_isNoList (by omega)) (by omega) (Nat.le_of_ble_eq_true rfl) (Nat.zero_le _) (Nat.zero_le _) (fun E h' n' _ z => det_x z) (det_k ?_)
    rw [show inB a 8 10 = false from inB_f1 qk]
    show SW _ _ _ _ _ _ _ (.int 1 :: _) _ _ _
    refine sw_if_ne (pc' := 8) (tgt := 15) rfl dX5_keep_5 (by decide +kernel) (fun c5 => ?_) (fun c5 => ?_)
    · refine sw_iconst (pc' := 16) (v := 1) rfl dX5_keep_15 (by decide +kernel) ?_
      refine sw_goto (tgt := 20) dX5_keep_16 (by decide +kernel) ?_
      refine sw_V (M' := MX5_isStopped__) (d' := d - 1) (bc' := 0) (bs' := 0) (ci := 6) (as := [_]) dX5_keep_20 w_1235 ok_X5_isStopped__ (q_isStopped1 (a := true) hM hA (by omega)) hM.ob rfl (by omega) (Nat.le_of_ble_eq_true rfl) (Nat.zero_le _) (Nat.zero_le _) (fun E h' n' _ z => rp_x z) (rp_k (fun p20 p20ρ p20τ p20M p20A p20F => ?_))
      obtain ⟨Gp20, hGp20, eGp20⟩ := p20M.out
      show SW _ _ _ _ _ _ _ (.int 1 :: _) _ _ _
      refine sw_if_eq (pc' := 26) (tgt := 30) rfl dX5_keep_23 (by decide +kernel) (fun c23 => ?_) (fun c23 => ?_)
      · exact absurd c23 (by decide +kernel)
      · refine sw_iconst (pc' := 27) (v := 0) rfl dX5_keep_26 (by decide +kernel) ?_
        refine sw_goto (tgt := 41) dX5_keep_27 (by decide +kernel) ?_
        refine sw_ret (v := some _) ⟨dX5_keep_41, _, rfl, rfl⟩ ?_
        rw [opKeep, if_li qk]
        exact pm_x tc_1 p20M p20A p20F (Nat.le_refl _)
    · exact absurd c5 (by decide +kernel)
  rcases idxN 11 (by decide +kernel) a with qk1 | ⟨k, hk, rfl⟩
  · refine sw_aload_n (pc' := 1) rfl dX5_keep_0 rfl ?_
    refine sw_iload_n (pc' := 2) rfl dX5_keep_1 rfl ?_
    refine sw_S (M' := MX5_isNoList) (d' := d - 1) (bc' := 0) (bs' := 0) (as := [_]) dX5_keep_2 w_1368 ok_X5_isNoList (q_isNoList (by omega)) (by omega) (Nat.le_of_ble_eq_true rfl) (Nat.zero_le _) (Nat.zero_le _) (fun E h' n' _ z => det_x z) (det_k ?_)
    rw [show inB a 8 10 = false from li_x qk qk1]
    show SW _ _ _ _ _ _ _ (.int 1 :: _) _ _ _
    refine sw_if_ne (pc' := 8) (tgt := 15) rfl dX5_keep_5 (by decide +kernel) (fun c5 => ?_) (fun c5 => ?_)
    · refine sw_iconst (pc' := 16) (v := 1) rfl dX5_keep_15 (by decide +kernel) ?_
      refine sw_goto (tgt := 20) dX5_keep_16 (by decide +kernel) ?_
      refine sw_V (M' := MX5_isStopped__) (d' := d - 1) (bc' := 0) (bs' := 0) (ci := 6) (as := [_]) dX5_keep_20 w_1235 ok_X5_isStopped__ (q_isStopped1 (a := true) hM hA (by omega)) hM.ob rfl (by omega) (Nat.le_of_ble_eq_true rfl) (Nat.zero_le _) (Nat.zero_le _) (fun E h' n' _ z => rp_x z) (rp_k (fun p20 p20ρ p20τ p20M p20A p20F => ?_))
      obtain ⟨Gp20, hGp20, eGp20⟩ := p20M.out
      show SW _ _ _ _ _ _ _ (.int 1 :: _) _ _ _
      refine sw_if_eq (pc' := 26) (tgt := 30) rfl dX5_keep_23 (by decide +kernel) (fun c23 => ?_) (fun c23 => ?_)
      · exact absurd c23 (by decide +kernel)
      · refine sw_iconst (pc' := 27) (v := 0) rfl dX5_keep_26 (by decide +kernel) ?_
        refine sw_goto (tgt := 41) dX5_keep_27 (by decide +kernel) ?_
        refine sw_ret (v := some _) ⟨dX5_keep_41, _, rfl, rfl⟩ ?_
        rw [opKeep, onLi_z qk qk1]
        exact pm_x tc_1 p20M p20A p20F (Nat.le_refl _)
    · exact absurd c5 (by decide +kernel)
  have hck := hI.1 k hk
  rcases idxN 11 (by decide +kernel) b with qj1 | ⟨j, hj, rfl⟩
  · refine sw_aload_n (pc' := 1) rfl dX5_keep_0 rfl ?_
    refine sw_iload_n (pc' := 2) rfl dX5_keep_1 rfl ?_
    refine sw_S (M' := MX5_isNoList) (d' := d - 1) (bc' := 0) (bs' := 0) (as := [_]) dX5_keep_2 w_1368 ok_X5_isNoList (q_isNoList (by omega)) (by omega) (Nat.le_of_ble_eq_true rfl) (Nat.zero_le _) (Nat.zero_le _) (fun E h' n' _ z => det_x z) (det_k ?_)
    rw [show inB (nI k) 8 10 = true from li_k qk hk]
    show SW _ _ _ _ _ _ _ (.int 0 :: _) _ _ _
    refine sw_if_ne (pc' := 8) (tgt := 15) rfl dX5_keep_5 (by decide +kernel) (fun c5 => ?_) (fun c5 => ?_)
    · exact absurd c5 (by decide +kernel)
    · refine sw_iload_n (pc' := 9) rfl dX5_keep_8 rfl ?_
      refine sw_S (M' := MX5_isNone) (d' := d - 1) (bc' := 0) (bs' := 0) (as := [_]) dX5_keep_9 w_1165 ok_X5_isNone (q_isNone (by omega)) (by omega) (Nat.le_of_ble_eq_true rfl) (Nat.zero_le _) (Nat.zero_le _) (fun E h' n' _ z => det_x z) (det_k ?_)
      rw [show inB b 0 10 = false from no_x (N := 10) (by decide +kernel) qj1]
      show SW _ _ _ _ _ _ _ (.int 1 :: _) _ _ _
      refine sw_if_eq (pc' := 15) (tgt := 19) rfl dX5_keep_12 (by decide +kernel) (fun c12 => ?_) (fun c12 => ?_)
      · exact absurd c12 (by decide +kernel)
      · refine sw_iconst (pc' := 16) (v := 1) rfl dX5_keep_15 (by decide +kernel) ?_
        refine sw_goto (tgt := 20) dX5_keep_16 (by decide +kernel) ?_
        refine sw_V (M' := MX5_isStopped__) (d' := d - 1) (bc' := 0) (bs' := 0) (ci := 6) (as := [_]) dX5_keep_20 w_1235 ok_X5_isStopped__ (q_isStopped1 (a := true) hM hA (by omega)) hM.ob rfl (by omega) (Nat.le_of_ble_eq_true rfl) (Nat.zero_le _) (Nat.zero_le _) (fun E h' n' _ z => rp_x z) (rp_k (fun p20 p20ρ p20τ p20M p20A p20F => ?_))
        obtain ⟨Gp20, hGp20, eGp20⟩ := p20M.out
        show SW _ _ _ _ _ _ _ (.int 1 :: _) _ _ _
        refine sw_if_eq (pc' := 26) (tgt := 30) rfl dX5_keep_23 (by decide +kernel) (fun c23 => ?_) (fun c23 => ?_)
        · exact absurd c23 (by decide +kernel)
        · refine sw_iconst (pc' := 27) (v := 0) rfl dX5_keep_26 (by decide +kernel) ?_
          refine sw_goto (tgt := 41) dX5_keep_27 (by decide +kernel) ?_
          refine sw_ret (v := some _) ⟨dX5_keep_41, _, rfl, rfl⟩ ?_
          rw [opKeep, onLi_k qk hk, onSh_x qj1]
          exact pm_x tc_1 p20M p20A p20F (Nat.le_refl _)
  have hcj := hI.1 j hj
  refine sw_aload_n (pc' := 1) rfl dX5_keep_0 rfl ?_
  refine sw_iload_n (pc' := 2) rfl dX5_keep_1 rfl ?_
  refine sw_S (M' := MX5_isNoList) (d' := d - 1) (bc' := 0) (bs' := 0) (as := [_]) dX5_keep_2 w_1368 ok_X5_isNoList (q_isNoList (by omega)) (by omega) (Nat.le_of_ble_eq_true rfl) (Nat.zero_le _) (Nat.zero_le _) (fun E h' n' _ z => det_x z) (det_k ?_)
  rw [show inB (nI k) 8 10 = true from li_k qk hk]
  show SW _ _ _ _ _ _ _ (.int 0 :: _) _ _ _
  refine sw_if_ne (pc' := 8) (tgt := 15) rfl dX5_keep_5 (by decide +kernel) (fun c5 => ?_) (fun c5 => ?_)
  · exact absurd c5 (by decide +kernel)
  · refine sw_iload_n (pc' := 9) rfl dX5_keep_8 rfl ?_
    refine sw_S (M' := MX5_isNone) (d' := d - 1) (bc' := 0) (bs' := 0) (as := [_]) dX5_keep_9 w_1165 ok_X5_isNone (q_isNone (by omega)) (by omega) (Nat.le_of_ble_eq_true rfl) (Nat.zero_le _) (Nat.zero_le _) (fun E h' n' _ z => det_x z) (det_k ?_)
    rw [show inB (nI j) 0 10 = true from inB_k (N := 10) (by omega) (by decide +kernel)]
    show SW _ _ _ _ _ _ _ (.int 0 :: _) _ _ _
    refine sw_if_eq (pc' := 15) (tgt := 19) rfl dX5_keep_12 (by decide +kernel) (fun c12 => ?_) (fun c12 => ?_)
    · refine sw_iconst (pc' := 20) (v := 0) rfl dX5_keep_19 (by decide +kernel) ?_
      refine sw_V (M' := MX5_isStopped__) (d' := d - 1) (bc' := 0) (bs' := 0) (ci := 6) (as := [_]) dX5_keep_20 w_1235 ok_X5_isStopped__ (q_isStopped1 (a := false) hM hA (by omega)) hM.ob rfl (by omega) (Nat.le_of_ble_eq_true rfl) (Nat.zero_le _) (Nat.zero_le _) (fun E h' n' _ z => rp_x z) (rp_k (fun p20 p20ρ p20τ p20M p20A p20F => ?_))
      obtain ⟨Gp20, hGp20, eGp20⟩ := p20M.out
      show SW _ _ _ _ _ _ _ (.int 0 :: _) _ _ _
      refine sw_if_eq (pc' := 26) (tgt := 30) rfl dX5_keep_23 (by decide +kernel) (fun c23 => ?_) (fun c23 => ?_)
      · refine sw_aload_n (pc' := 31) rfl dX5_keep_30 rfl ?_
        refine sw_iload_n (pc' := 32) rfl dX5_keep_31 rfl ?_
        refine sw_aload_n (pc' := 33) rfl dX5_keep_32 rfl ?_
        refine sw_iload_n (pc' := 34) rfl dX5_keep_33 rfl ?_
        refine sw_iconst (pc' := 35) (v := 0) rfl dX5_keep_34 (by decide +kernel) ?_
        refine sw_V (M' := MX5_picture) (d' := d - 1) (bc' := 1) (bs' := 12) (ci := 6) (as := [_, _]) dX5_keep_35 w_1255 ok_X5_picture (q_picture p20M p20A (k := j) (by omega) (hI.1 j (by omega)) (by omega) (by omega) (by omega)) p20M.ob rfl (by omega) (Nat.le_of_ble_eq_true rfl) (by omega) (by omega) (fun E h' n' _ z => na_x z) (na_k (fun p35 p35f p35N p35g p35F => ?_))
        have p35M := p20M.fr (fun i h1 h2 => p35F i (by omega))
        obtain ⟨Gp35, hGp35, eGp35⟩ := p35M.out
        refine sw_V (M' := MX5_made) (d' := d - 1) (bc' := 0) (bs' := 0) (ci := 6) (as := [_, _]) dX5_keep_38 w_1371 ok_X5_made (q_made p35M p20A (k := k) (f := blN (σ.1 k) (σ.1 j) 0 (σ.2.1 j)) (by omega) (by omega) p35N (by omega) (fun i hi => (p35g i hi).trans ((blN_in hi).trans (congrArg (σ.1 j) (Nat.zero_add i))).symm)) p35M.ob rfl (by omega) (Nat.le_of_ble_eq_true rfl) (Nat.zero_le _) (Nat.zero_le _) (fun E h' n' _ z => rp_x z) (rp_k (fun p38 p38ρ p38τ p38M p38A p38F => ?_))
        obtain ⟨Gp38, hGp38, eGp38⟩ := p38M.out
        refine sw_ret (v := some _) ⟨dX5_keep_41, _, rfl, rfl⟩ ?_
        rw [opKeep, onLi_k qk hk, onSh_k hj]
        exact pm_k p38M p38A ((p20F.tr (fun i q g => p35F i (by omega)) (Nat.le_refl _)).tr p38F (Nat.le_succ _)) (Nat.le_succ _)
      · exact absurd c23 (by decide +kernel)
    · exact absurd c12 (by decide +kernel)
theorem q_keepRest {h : AH} {d bc bs n : Nat} {σ : CS} {th : Int32} {a b : Int32} (hR : RMo h σ th) (hI : Iv σ) (hn : 159 ≤ n) (hd : 8 ≤ d) (h1 : 1 ≤ bc) (h2 : 12 ≤ bs)  : SM SR0 MX5_keepRest d bc bs [.ref 135, .int a, .int b] h n (PM h n (tc sI sS) (opKeepRest σ a b)) := by
  obtain ⟨ρ, τ, hM, hA⟩ := hR
  obtain ⟨G0, hG0, eG0⟩ := hM.out
  refine sm_of pn_OverwalksModel rfl (Nat.le_of_ble_eq_true rfl) ?_
  rcases idxN 6 (by decide +kernel) a with qk1 | ⟨k, hk, rfl⟩
  · refine sw_aload_n (pc' := 1) rfl dX5_keepRest_0 rfl ?_
    refine sw_iload_n (pc' := 2) rfl dX5_keepRest_1 rfl ?_
    refine sw_S (M' := MX5_isNoWalk) (d' := d - 1) (bc' := 0) (bs' := 0) (as := [_]) dX5_keepRest_2 w_1306 ok_X5_isNoWalk (q_isNoWalk (by omega)) (by omega) (Nat.le_of_ble_eq_true rfl) (Nat.zero_le _) (Nat.zero_le _) (fun E h' n' _ z => det_x z) (det_k ?_)
    rw [show inB a 0 5 = false from no_x (N := 5) (by decide +kernel) qk1]
    show SW _ _ _ _ _ _ _ (.int 1 :: _) _ _ _
    refine sw_if_ne (pc' := 8) (tgt := 15) rfl dX5_keepRest_5 (by decide +kernel) (fun c5 => ?_) (fun c5 => ?_)
    · refine sw_iconst (pc' := 16) (v := 1) rfl dX5_keepRest_15 (by decide +kernel) ?_
      refine sw_goto (tgt := 20) dX5_keepRest_16 (by decide +kernel) ?_
      refine sw_aload_n (pc' := 21) rfl dX5_keepRest_20 rfl ?_
      refine sw_iload_n (pc' := 22) rfl dX5_keepRest_21 rfl ?_
      refine sw_V (M' := MX5_isUnmade) (d' := d - 1) (bc' := 0) (bs' := 0) (ci := 6) (as := [_]) dX5_keepRest_22 w_1313 ok_X5_isUnmade (q_isUnmade_x hM (no_x (N := 5) (by decide +kernel) qk1) (by omega)) hM.ob rfl (by omega) (Nat.le_of_ble_eq_true rfl) (Nat.zero_le _) (Nat.zero_le _) (fun E h' n' _ z => det_x z) (det_k ?_)
      refine sw_V (M' := MX5_isStopped_) (d' := d - 1) (bc' := 0) (bs' := 0) (ci := 6) (as := [_, _]) dX5_keepRest_25 w_1215 ok_X5_isStopped_ (q_isStopped2 (a := true) (b := false) hM hA (by omega)) hM.ob rfl (by omega) (Nat.le_of_ble_eq_true rfl) (Nat.zero_le _) (Nat.zero_le _) (fun E h' n' _ z => rp_x z) (rp_k (fun p25 p25ρ p25τ p25M p25A p25F => ?_))
      obtain ⟨Gp25, hGp25, eGp25⟩ := p25M.out
      show SW _ _ _ _ _ _ _ (.int 1 :: _) _ _ _
      refine sw_if_eq (pc' := 31) (tgt := 33) rfl dX5_keepRest_28 (by decide +kernel) (fun c28 => ?_) (fun c28 => ?_)
      · exact absurd c28 (by decide +kernel)
      · refine sw_iconst (pc' := 32) (v := 0) rfl dX5_keepRest_31 (by decide +kernel) ?_
        refine sw_ret (v := some _) ⟨dX5_keepRest_32, _, rfl, rfl⟩ ?_
        rw [opKeepRest, onWk_x qk1]
        exact pm_x tc_1 p25M p25A p25F (Nat.le_refl _)
    · exact absurd c5 (by decide +kernel)
  have ovk := hI.2.2.2.2.2.2.1 k hk
  have hcwk := hI.1 _ ovk
  rcases Classical.em (b < 8) with qj | qj
  · refine sw_aload_n (pc' := 1) rfl dX5_keepRest_0 rfl ?_
    refine sw_iload_n (pc' := 2) rfl dX5_keepRest_1 rfl ?_
    refine sw_S (M' := MX5_isNoWalk) (d' := d - 1) (bc' := 0) (bs' := 0) (as := [_]) dX5_keepRest_2 w_1306 ok_X5_isNoWalk (q_isNoWalk (by omega)) (by omega) (Nat.le_of_ble_eq_true rfl) (Nat.zero_le _) (Nat.zero_le _) (fun E h' n' _ z => det_x z) (det_k ?_)
    rw [show inB (nI k) 0 5 = true from inB_k (N := 5) (by omega) (by decide +kernel)]
    show SW _ _ _ _ _ _ _ (.int 0 :: _) _ _ _
    refine sw_if_ne (pc' := 8) (tgt := 15) rfl dX5_keepRest_5 (by decide +kernel) (fun c5 => ?_) (fun c5 => ?_)
    · exact absurd c5 (by decide +kernel)
    · refine sw_iload_n (pc' := 9) rfl dX5_keepRest_8 rfl ?_
      refine sw_S (M' := MX5_isNoList) (d' := d - 1) (bc' := 0) (bs' := 0) (as := [_]) dX5_keepRest_9 w_1368 ok_X5_isNoList (q_isNoList (by omega)) (by omega) (Nat.le_of_ble_eq_true rfl) (Nat.zero_le _) (Nat.zero_le _) (fun E h' n' _ z => det_x z) (det_k ?_)
      rw [show inB b 8 10 = false from inB_f1 qj]
      show SW _ _ _ _ _ _ _ (.int 1 :: _) _ _ _
      refine sw_if_eq (pc' := 15) (tgt := 19) rfl dX5_keepRest_12 (by decide +kernel) (fun c12 => ?_) (fun c12 => ?_)
      · exact absurd c12 (by decide +kernel)
      · refine sw_iconst (pc' := 16) (v := 1) rfl dX5_keepRest_15 (by decide +kernel) ?_
        refine sw_goto (tgt := 20) dX5_keepRest_16 (by decide +kernel) ?_
        refine sw_aload_n (pc' := 21) rfl dX5_keepRest_20 rfl ?_
        refine sw_iload_n (pc' := 22) rfl dX5_keepRest_21 rfl ?_
        refine sw_V (M' := MX5_isUnmade) (d' := d - 1) (bc' := 0) (bs' := 0) (ci := 6) (as := [_]) dX5_keepRest_22 w_1313 ok_X5_isUnmade (q_isUnmade_k hM (k := k) (by omega) (hI.2.2.2.2.2.2.1 k (by omega)) (by omega)) hM.ob rfl (by omega) (Nat.le_of_ble_eq_true rfl) (Nat.zero_le _) (Nat.zero_le _) (fun E h' n' _ z => det_x z) (det_k ?_)
        refine sw_V (M' := MX5_isStopped_) (d' := d - 1) (bc' := 0) (bs' := 0) (ci := 6) (as := [_, _]) dX5_keepRest_25 w_1215 ok_X5_isStopped_ (q_isStopped2 (a := true) (b := (!(σ.2.2.2.2.1 k).1)) hM hA (by omega)) hM.ob rfl (by omega) (Nat.le_of_ble_eq_true rfl) (Nat.zero_le _) (Nat.zero_le _) (fun E h' n' _ z => rp_x z) (rp_k (fun p25 p25ρ p25τ p25M p25A p25F => ?_))
        obtain ⟨Gp25, hGp25, eGp25⟩ := p25M.out
        show SW _ _ _ _ _ _ _ (.int 1 :: _) _ _ _
        refine sw_if_eq (pc' := 31) (tgt := 33) rfl dX5_keepRest_28 (by decide +kernel) (fun c28 => ?_) (fun c28 => ?_)
        · exact absurd c28 (by decide +kernel)
        · refine sw_iconst (pc' := 32) (v := 0) rfl dX5_keepRest_31 (by decide +kernel) ?_
          refine sw_ret (v := some _) ⟨dX5_keepRest_32, _, rfl, rfl⟩ ?_
          rw [opKeepRest, onWk_k hk, if_li qj]
          exact pm_x tc_1 p25M p25A p25F (Nat.le_refl _)
  rcases idxN 11 (by decide +kernel) b with qj1 | ⟨j, hj, rfl⟩
  · refine sw_aload_n (pc' := 1) rfl dX5_keepRest_0 rfl ?_
    refine sw_iload_n (pc' := 2) rfl dX5_keepRest_1 rfl ?_
    refine sw_S (M' := MX5_isNoWalk) (d' := d - 1) (bc' := 0) (bs' := 0) (as := [_]) dX5_keepRest_2 w_1306 ok_X5_isNoWalk (q_isNoWalk (by omega)) (by omega) (Nat.le_of_ble_eq_true rfl) (Nat.zero_le _) (Nat.zero_le _) (fun E h' n' _ z => det_x z) (det_k ?_)
    rw [show inB (nI k) 0 5 = true from inB_k (N := 5) (by omega) (by decide +kernel)]
    show SW _ _ _ _ _ _ _ (.int 0 :: _) _ _ _
    refine sw_if_ne (pc' := 8) (tgt := 15) rfl dX5_keepRest_5 (by decide +kernel) (fun c5 => ?_) (fun c5 => ?_)
    · exact absurd c5 (by decide +kernel)
    · refine sw_iload_n (pc' := 9) rfl dX5_keepRest_8 rfl ?_
      refine sw_S (M' := MX5_isNoList) (d' := d - 1) (bc' := 0) (bs' := 0) (as := [_]) dX5_keepRest_9 w_1368 ok_X5_isNoList (q_isNoList (by omega)) (by omega) (Nat.le_of_ble_eq_true rfl) (Nat.zero_le _) (Nat.zero_le _) (fun E h' n' _ z => det_x z) (det_k ?_)
      rw [show inB b 8 10 = false from li_x qj qj1]
      show SW _ _ _ _ _ _ _ (.int 1 :: _) _ _ _
      refine sw_if_eq (pc' := 15) (tgt := 19) rfl dX5_keepRest_12 (by decide +kernel) (fun c12 => ?_) (fun c12 => ?_)
      · exact absurd c12 (by decide +kernel)
      · refine sw_iconst (pc' := 16) (v := 1) rfl dX5_keepRest_15 (by decide +kernel) ?_
        refine sw_goto (tgt := 20) dX5_keepRest_16 (by decide +kernel) ?_
        refine sw_aload_n (pc' := 21) rfl dX5_keepRest_20 rfl ?_
        refine sw_iload_n (pc' := 22) rfl dX5_keepRest_21 rfl ?_
        refine sw_V (M' := MX5_isUnmade) (d' := d - 1) (bc' := 0) (bs' := 0) (ci := 6) (as := [_]) dX5_keepRest_22 w_1313 ok_X5_isUnmade (q_isUnmade_k hM (k := k) (by omega) (hI.2.2.2.2.2.2.1 k (by omega)) (by omega)) hM.ob rfl (by omega) (Nat.le_of_ble_eq_true rfl) (Nat.zero_le _) (Nat.zero_le _) (fun E h' n' _ z => det_x z) (det_k ?_)
        refine sw_V (M' := MX5_isStopped_) (d' := d - 1) (bc' := 0) (bs' := 0) (ci := 6) (as := [_, _]) dX5_keepRest_25 w_1215 ok_X5_isStopped_ (q_isStopped2 (a := true) (b := (!(σ.2.2.2.2.1 k).1)) hM hA (by omega)) hM.ob rfl (by omega) (Nat.le_of_ble_eq_true rfl) (Nat.zero_le _) (Nat.zero_le _) (fun E h' n' _ z => rp_x z) (rp_k (fun p25 p25ρ p25τ p25M p25A p25F => ?_))
        obtain ⟨Gp25, hGp25, eGp25⟩ := p25M.out
        show SW _ _ _ _ _ _ _ (.int 1 :: _) _ _ _
        refine sw_if_eq (pc' := 31) (tgt := 33) rfl dX5_keepRest_28 (by decide +kernel) (fun c28 => ?_) (fun c28 => ?_)
        · exact absurd c28 (by decide +kernel)
        · refine sw_iconst (pc' := 32) (v := 0) rfl dX5_keepRest_31 (by decide +kernel) ?_
          refine sw_ret (v := some _) ⟨dX5_keepRest_32, _, rfl, rfl⟩ ?_
          rw [opKeepRest, onWk_k hk, onLi_z qj qj1]
          exact pm_x tc_1 p25M p25A p25F (Nat.le_refl _)
  have hcj := hI.1 j hj
  rcases Classical.em ((σ.2.2.2.2.1 k).1 = false) with qm | qm
  · refine sw_aload_n (pc' := 1) rfl dX5_keepRest_0 rfl ?_
    refine sw_iload_n (pc' := 2) rfl dX5_keepRest_1 rfl ?_
    refine sw_S (M' := MX5_isNoWalk) (d' := d - 1) (bc' := 0) (bs' := 0) (as := [_]) dX5_keepRest_2 w_1306 ok_X5_isNoWalk (q_isNoWalk (by omega)) (by omega) (Nat.le_of_ble_eq_true rfl) (Nat.zero_le _) (Nat.zero_le _) (fun E h' n' _ z => det_x z) (det_k ?_)
    rw [show inB (nI k) 0 5 = true from inB_k (N := 5) (by omega) (by decide +kernel)]
    show SW _ _ _ _ _ _ _ (.int 0 :: _) _ _ _
    refine sw_if_ne (pc' := 8) (tgt := 15) rfl dX5_keepRest_5 (by decide +kernel) (fun c5 => ?_) (fun c5 => ?_)
    · exact absurd c5 (by decide +kernel)
    · refine sw_iload_n (pc' := 9) rfl dX5_keepRest_8 rfl ?_
      refine sw_S (M' := MX5_isNoList) (d' := d - 1) (bc' := 0) (bs' := 0) (as := [_]) dX5_keepRest_9 w_1368 ok_X5_isNoList (q_isNoList (by omega)) (by omega) (Nat.le_of_ble_eq_true rfl) (Nat.zero_le _) (Nat.zero_le _) (fun E h' n' _ z => det_x z) (det_k ?_)
      rw [show inB (nI j) 8 10 = true from li_k qj hj]
      show SW _ _ _ _ _ _ _ (.int 0 :: _) _ _ _
      refine sw_if_eq (pc' := 15) (tgt := 19) rfl dX5_keepRest_12 (by decide +kernel) (fun c12 => ?_) (fun c12 => ?_)
      · refine sw_iconst (pc' := 20) (v := 0) rfl dX5_keepRest_19 (by decide +kernel) ?_
        refine sw_aload_n (pc' := 21) rfl dX5_keepRest_20 rfl ?_
        refine sw_iload_n (pc' := 22) rfl dX5_keepRest_21 rfl ?_
        refine sw_V (M' := MX5_isUnmade) (d' := d - 1) (bc' := 0) (bs' := 0) (ci := 6) (as := [_]) dX5_keepRest_22 w_1313 ok_X5_isUnmade (q_isUnmade_k hM (k := k) (by omega) (hI.2.2.2.2.2.2.1 k (by omega)) (by omega)) hM.ob rfl (by omega) (Nat.le_of_ble_eq_true rfl) (Nat.zero_le _) (Nat.zero_le _) (fun E h' n' _ z => det_x z) (det_k ?_)
        rw [show (σ.2.2.2.2.1 k).1 = false from qm]
        show SW _ _ _ _ _ _ _ (.int 1 :: _) _ _ _
        refine sw_V (M' := MX5_isStopped_) (d' := d - 1) (bc' := 0) (bs' := 0) (ci := 6) (as := [_, _]) dX5_keepRest_25 w_1215 ok_X5_isStopped_ (q_isStopped2 (a := false) (b := true) hM hA (by omega)) hM.ob rfl (by omega) (Nat.le_of_ble_eq_true rfl) (Nat.zero_le _) (Nat.zero_le _) (fun E h' n' _ z => rp_x z) (rp_k (fun p25 p25ρ p25τ p25M p25A p25F => ?_))
        obtain ⟨Gp25, hGp25, eGp25⟩ := p25M.out
        show SW _ _ _ _ _ _ _ (.int 1 :: _) _ _ _
        refine sw_if_eq (pc' := 31) (tgt := 33) rfl dX5_keepRest_28 (by decide +kernel) (fun c28 => ?_) (fun c28 => ?_)
        · exact absurd c28 (by decide +kernel)
        · refine sw_iconst (pc' := 32) (v := 0) rfl dX5_keepRest_31 (by decide +kernel) ?_
          refine sw_ret (v := some _) ⟨dX5_keepRest_32, _, rfl, rfl⟩ ?_
          rw [opKeepRest, onWk_k hk, onLi_k qj hj, if_pos qm]
          exact pm_x (tc_2 sSI) p25M p25A p25F (Nat.le_refl _)
      · exact absurd c12 (by decide +kernel)
  refine sw_aload_n (pc' := 1) rfl dX5_keepRest_0 rfl ?_
  refine sw_iload_n (pc' := 2) rfl dX5_keepRest_1 rfl ?_
  refine sw_S (M' := MX5_isNoWalk) (d' := d - 1) (bc' := 0) (bs' := 0) (as := [_]) dX5_keepRest_2 w_1306 ok_X5_isNoWalk (q_isNoWalk (by omega)) (by omega) (Nat.le_of_ble_eq_true rfl) (Nat.zero_le _) (Nat.zero_le _) (fun E h' n' _ z => det_x z) (det_k ?_)
  rw [show inB (nI k) 0 5 = true from inB_k (N := 5) (by omega) (by decide +kernel)]
  show SW _ _ _ _ _ _ _ (.int 0 :: _) _ _ _
  refine sw_if_ne (pc' := 8) (tgt := 15) rfl dX5_keepRest_5 (by decide +kernel) (fun c5 => ?_) (fun c5 => ?_)
  · exact absurd c5 (by decide +kernel)
  · refine sw_iload_n (pc' := 9) rfl dX5_keepRest_8 rfl ?_
    refine sw_S (M' := MX5_isNoList) (d' := d - 1) (bc' := 0) (bs' := 0) (as := [_]) dX5_keepRest_9 w_1368 ok_X5_isNoList (q_isNoList (by omega)) (by omega) (Nat.le_of_ble_eq_true rfl) (Nat.zero_le _) (Nat.zero_le _) (fun E h' n' _ z => det_x z) (det_k ?_)
    rw [show inB (nI j) 8 10 = true from li_k qj hj]
    show SW _ _ _ _ _ _ _ (.int 0 :: _) _ _ _
    refine sw_if_eq (pc' := 15) (tgt := 19) rfl dX5_keepRest_12 (by decide +kernel) (fun c12 => ?_) (fun c12 => ?_)
    · refine sw_iconst (pc' := 20) (v := 0) rfl dX5_keepRest_19 (by decide +kernel) ?_
      refine sw_aload_n (pc' := 21) rfl dX5_keepRest_20 rfl ?_
      refine sw_iload_n (pc' := 22) rfl dX5_keepRest_21 rfl ?_
      refine sw_V (M' := MX5_isUnmade) (d' := d - 1) (bc' := 0) (bs' := 0) (ci := 6) (as := [_]) dX5_keepRest_22 w_1313 ok_X5_isUnmade (q_isUnmade_k hM (k := k) (by omega) (hI.2.2.2.2.2.2.1 k (by omega)) (by omega)) hM.ob rfl (by omega) (Nat.le_of_ble_eq_true rfl) (Nat.zero_le _) (Nat.zero_le _) (fun E h' n' _ z => det_x z) (det_k ?_)
      rw [show (σ.2.2.2.2.1 k).1 = true from (mkT qm)]
      show SW _ _ _ _ _ _ _ (.int 0 :: _) _ _ _
      refine sw_V (M' := MX5_isStopped_) (d' := d - 1) (bc' := 0) (bs' := 0) (ci := 6) (as := [_, _]) dX5_keepRest_25 w_1215 ok_X5_isStopped_ (q_isStopped2 (a := false) (b := false) hM hA (by omega)) hM.ob rfl (by omega) (Nat.le_of_ble_eq_true rfl) (Nat.zero_le _) (Nat.zero_le _) (fun E h' n' _ z => rp_x z) (rp_k (fun p25 p25ρ p25τ p25M p25A p25F => ?_))
      obtain ⟨Gp25, hGp25, eGp25⟩ := p25M.out
      show SW _ _ _ _ _ _ _ (.int 0 :: _) _ _ _
      refine sw_if_eq (pc' := 31) (tgt := 33) rfl dX5_keepRest_28 (by decide +kernel) (fun c28 => ?_) (fun c28 => ?_)
      · refine sw_aload_n (pc' := 34) rfl dX5_keepRest_33 rfl ?_
        refine sw_iload_n (pc' := 35) rfl dX5_keepRest_34 rfl ?_
        refine sw_V (M' := MX5_isStale) (d' := d - 1) (bc' := 0) (bs' := 0) (ci := 6) (as := [_]) dX5_keepRest_35 w_1317 ok_X5_isStale (q_isStale p25M (k := k) (by omega) (mkT qm) (hI.2.2.2.2.2.2.1 k (by omega))) p25M.ob rfl (by omega) (Nat.le_of_ble_eq_true rfl) (Nat.zero_le _) (Nat.zero_le _) (fun E h' n' _ z => det_x z) (det_k ?_)
        refine sw_if_ne (pc' := 41) (tgt := 61) rfl dX5_keepRest_38 (by decide +kernel) (fun c38 => ?_) (fun c38 => ?_)
        · refine sw_aload_n (pc' := 62) rfl dX5_keepRest_61 rfl ?_
          refine sw_V (M' := MX5_no) (d' := d - 1) (bc' := 0) (bs' := 0) (ci := 6) (as := []) dX5_keepRest_62 w_1184 ok_X5_no (q_no p25M p25A) p25M.ob rfl (by omega) (Nat.le_of_ble_eq_true rfl) (Nat.zero_le _) (Nat.zero_le _) (fun E h' n' _ z => rp_x z) (rp_k (fun p62 p62ρ p62τ p62M p62A p62F => ?_))
          obtain ⟨Gp62, hGp62, eGp62⟩ := p62M.out
          refine sw_goto (tgt := 78) dX5_keepRest_65 (by decide +kernel) ?_
          refine sw_ret (v := some _) ⟨dX5_keepRest_78, _, rfl, rfl⟩ ?_
          rw [opKeepRest, onWk_k hk, onLi_k qj hj, if_neg qm, if_pos (Or.inl (wGa_s (bI_1 c38)))]
          exact pm_k p62M p62A (p25F.tr p62F (Nat.le_refl _)) (Nat.le_refl _)
        · refine sw_aload_n (pc' := 42) rfl dX5_keepRest_41 rfl ?_
          refine sw_getf (ci := 6) (k := 7) (pc' := 45) rfl dX5_keepRest_42 (by decide +kernel) w_1120 p25M.ob rfl ?_
          refine sw_iload_n (pc' := 46) rfl dX5_keepRest_45 rfl ?_
          refine sw_iald (j := k) (pc' := 47) rfl dX5_keepRest_46 p25M.hw rfl (by omega) (by decide +kernel) ?_
          refine sw_iconst (pc' := 48) (v := 1) rfl dX5_keepRest_47 (by decide +kernel) ?_
          refine sw_icmp_eq (pc' := 51) (tgt := 61) rfl dX5_keepRest_48 (by decide +kernel) (fun c48 => ?_) (fun c48 => ?_)
          · refine sw_aload_n (pc' := 62) rfl dX5_keepRest_61 rfl ?_
            refine sw_V (M' := MX5_no) (d' := d - 1) (bc' := 0) (bs' := 0) (ci := 6) (as := []) dX5_keepRest_62 w_1184 ok_X5_no (q_no p25M p25A) p25M.ob rfl (by omega) (Nat.le_of_ble_eq_true rfl) (Nat.zero_le _) (Nat.zero_le _) (fun E h' n' _ z => rp_x z) (rp_k (fun p62 p62ρ p62τ p62M p62A p62F => ?_))
            obtain ⟨Gp62, hGp62, eGp62⟩ := p62M.out
            refine sw_goto (tgt := 78) dX5_keepRest_65 (by decide +kernel) ?_
            refine sw_ret (v := some _) ⟨dX5_keepRest_78, _, rfl, rfl⟩ ?_
            rw [opKeepRest, onWk_k hk, onLi_k qj hj, if_neg qm, if_pos (Or.inl (wGa_1 c48))]
            exact pm_k p62M p62A (p25F.tr p62F (Nat.le_refl _)) (Nat.le_refl _)
          · refine sw_aload_n (pc' := 52) rfl dX5_keepRest_51 rfl ?_
            refine sw_getf (ci := 6) (k := 6) (pc' := 55) rfl dX5_keepRest_52 (by decide +kernel) w_1119 p25M.ob rfl ?_
            refine sw_iload_n (pc' := 56) rfl dX5_keepRest_55 rfl ?_
            refine sw_iald (j := k) (pc' := 57) rfl dX5_keepRest_56 p25M.sh rfl (by omega) (by decide +kernel) ?_
            rw [shF_m (k := k) (by omega) (mkT qm)]
            refine sw_iload_n (pc' := 58) rfl dX5_keepRest_57 rfl ?_
            refine sw_icmp_ne (pc' := 61) (tgt := 68) rfl dX5_keepRest_58 (by decide +kernel) (fun c58 => ?_) (fun c58 => ?_)
            · obtain ⟨A, eA, hA1, hA2⟩ := hI.2.2.2.2.2.2.2 k hk (mkT qm) (bI_0 c38)
              refine sw_aload_n (pc' := 69) rfl dX5_keepRest_68 rfl ?_
              refine sw_iload_n (pc' := 70) rfl dX5_keepRest_69 rfl ?_
              refine sw_aload_n (pc' := 71) rfl dX5_keepRest_70 rfl ?_
              refine sw_iload_n (pc' := 72) rfl dX5_keepRest_71 rfl ?_
              refine sw_V (M' := MX5_left) (d' := d - 1) (bc' := 1) (bs' := 12) (ci := 6) (as := [_]) dX5_keepRest_72 w_1347 ok_X5_left (q_left p25M p25A (k := k) (by omega) (mkT qm) (hI.2.2.2.2.2.2.1 k (by omega)) (hI.1 _ (hI.2.2.2.2.2.2.1 k (by omega))) eA hA1 (by omega) (by omega) (by omega) (by omega)) p25M.ob rfl (by omega) (Nat.le_of_ble_eq_true rfl) (by omega) (by omega) (fun E h' n' _ z => nl_x z) (nl_k (fun p72 p72ρ p72τ p72f p72M p72A p72N p72g p72F => ?_))
              obtain ⟨Gp72, hGp72, eGp72⟩ := p72M.out
              refine sw_V (M' := MX5_made) (d' := d - 1) (bc' := 0) (bs' := 0) (ci := 6) (as := [_, _]) dX5_keepRest_75 w_1371 ok_X5_made (q_made p72M p72A (k := j) (f := blN (σ.1 j) (σ.1 (wO σ k)) A (σ.2.1 (wO σ k) - A)) (by omega) (by omega) p72N (by omega) (fun i hi => (p72g i hi).trans (blN_in hi).symm)) p72M.ob rfl (by omega) (Nat.le_of_ble_eq_true rfl) (Nat.zero_le _) (Nat.zero_le _) (fun E h' n' _ z => rp_x z) (rp_k (fun p75 p75ρ p75τ p75M p75A p75F => ?_))
              obtain ⟨Gp75, hGp75, eGp75⟩ := p75M.out
              refine sw_ret (v := some _) ⟨dX5_keepRest_78, _, rfl, rfl⟩ ?_
              rw [opKeepRest, onWk_k hk, onLi_k qj hj, if_neg qm, if_neg (fun q => q.elim (fun e => Bool.noConfusion (e.symm.trans (wGa_t (bI_0 c38) c48))) c58), wGu_eq (bI_0 c38) hcwk eA hA1 (by omega), tcl (by omega) eA]
              exact pm_k p75M p75A ((p25F.tr p72F (Nat.le_refl _)).tr p75F (Nat.le_succ _)) (Nat.le_succ _)
            · refine sw_aload_n (pc' := 62) rfl dX5_keepRest_61 rfl ?_
              refine sw_V (M' := MX5_no) (d' := d - 1) (bc' := 0) (bs' := 0) (ci := 6) (as := []) dX5_keepRest_62 w_1184 ok_X5_no (q_no p25M p25A) p25M.ob rfl (by omega) (Nat.le_of_ble_eq_true rfl) (Nat.zero_le _) (Nat.zero_le _) (fun E h' n' _ z => rp_x z) (rp_k (fun p62 p62ρ p62τ p62M p62A p62F => ?_))
              obtain ⟨Gp62, hGp62, eGp62⟩ := p62M.out
              refine sw_goto (tgt := 78) dX5_keepRest_65 (by decide +kernel) ?_
              refine sw_ret (v := some _) ⟨dX5_keepRest_78, _, rfl, rfl⟩ ?_
              rw [opKeepRest, onWk_k hk, onLi_k qj hj, if_neg qm, if_pos (Or.inr c58)]
              exact pm_k p62M p62A (p25F.tr p62F (Nat.le_refl _)) (Nat.le_refl _)
      · exact absurd c28 (by decide +kernel)
    · exact absurd c12 (by decide +kernel)
