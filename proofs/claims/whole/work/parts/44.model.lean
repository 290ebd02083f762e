/-! the model: fill, replace, copies, skip -/
theorem fiN_s2 {f : Nat → Int32} {x : Int32} {j : Nat} : up (fiN f x j) j x = fiN f x (j + 1) := by
  funext q
  unfold up fiN
  by_cases e : q = j
  · rw [if_pos e, if_pos (by omega)]
  · rw [if_neg e]
    by_cases g : q < j
    · rw [if_pos g, if_pos (by omega)]
    · rw [if_neg g, if_neg (by omega)]
theorem fiN_z {f : Nat → Int32} {x : Int32} : fiN f x 0 = f := by funext q; unfold fiN; rw [if_neg (Nat.not_lt_zero q)]
theorem fiN_at {f g : Nat → Int32} {x : Int32} {c : Nat} : ∀ j, j < c → fiN g x c j = fiN f x c j := by intro j hj; unfold fiN; rw [if_pos hj, if_pos hj]
theorem rpF_z {f : Nat → Int32} {x y : Int32} : rpF f x y 0 = f := by funext q; unfold rpF; rw [if_neg (fun g => Nat.not_lt_zero q g.1)]
theorem rpF_a {f : Nat → Int32} {x y : Int32} {j : Nat} : rpF f x y j j = f j := by unfold rpF; rw [if_neg (fun g => Nat.lt_irrefl j g.1)]
theorem rpF_p {f : Nat → Int32} {x y : Int32} {j : Nat} (h : f j = x) : up (rpF f x y j) j y = rpF f x y (j + 1) := by
  funext q
  unfold up rpF
  by_cases e : q = j
  · rw [if_pos e, e, if_pos ⟨by omega, h⟩]
  · rw [if_neg e]
    by_cases g : q < j ∧ f q = x
    · rw [if_pos g, if_pos ⟨by omega, g.2⟩]
    · rw [if_neg g, if_neg (fun z => g ⟨by omega, z.2⟩)]
theorem rpF_m2 {f : Nat → Int32} {x y : Int32} {j : Nat} (h : ¬ f j = x) : up (rpF f x y j) j (f j) = rpF f x y (j + 1) := by
  funext q
  unfold up rpF
  by_cases e : q = j
  · rw [if_pos e, e, if_neg (fun z => h z.2)]
  · rw [if_neg e]
    by_cases g : q < j ∧ f q = x
    · rw [if_pos g, if_pos ⟨by omega, g.2⟩]
    · rw [if_neg g, if_neg (fun z => g ⟨by omega, z.2⟩)]
theorem rpF_at {f g : Nat → Int32} {x y : Int32} {c : Nat} (h : ∀ j, j < c → g j = f j) : ∀ j, j < c → rpF g x y c j = rpF f x y c j := by intro j hj; unfold rpF; rw [h j hj]
theorem rowE {k : Nat} (hk : k < 11) (h : ¬ kP (kdO k) = false) : kE (kdO k) = false ∧ ¬ kdO k = 2 := by revert k; decide
theorem rowU {σ : CS} {k : Nat} {x : Int32} (hk : k < 11) (h : ¬ kP (kdO k) = false) : ldU σ k x = la2 σ k (σ.2.1 k) x := ldU_p (by rw [ldY, (rowE hk h).1]; rfl) (if_neg (rowE hk h).2)
theorem la2_c {σ : CS} {k p : Nat} {x : Int32} : (la2 σ k p x).2.1 k = σ.2.1 k + 1 := up_s
theorem roomS {c m : Nat} (hc : c ≤ 12) (hm : m ≤ 12) : 12 < nI c + nI m ↔ 12 < c + m := by
  rw [nI_add]
  exact nI_ltI (a := 12) (by decide +kernel) (by omega)
theorem le12 {c : Nat} (h : c < 2 ^ 31) : nI c ≤ 12 ↔ c ≤ 12 := nI_leI (b := 12) h (by decide +kernel)
theorem wHM_i {σ : CS} {k A : Nat} (eA : wAh σ k = nI A) : decide (wAh σ k < nI (σ.2.1 (wO σ k))) = decide (nI A < nI (σ.2.1 (wO σ k))) := by rw [eA]
/-- a weaker end -/
theorem SW.post {SR : SRT} {M : MI} {d bc bs pc n : Nat} {lv : List (Nat × Value)} {st : List Value} {h : AH} {Post Post' : ARes → AH → Nat → Prop} (k : SW SR M d bc bs pc lv st h n Post) (hp : ∀ r h' n', Post r h' n' → Post' r h' n') : SW SR M d bc bs pc lv st h n Post' := by
  intro G p l e R s m args below meth c A ad0 n0 Q hc hr he
  exact k G p l e R s m args below meth c A ad0 n0 Q hc hr ⟨fun H locs cells slots ls ad h n v pc h1 h2 h3 h4 => he.1 H locs cells slots ls ad h n v pc h1 h2 h3 (hp _ _ _ h4), fun H locs ad h n E h1 h2 h3 => he.2 H locs ad h n E h1 h2 (hp _ _ _ h3)⟩
theorem ql_fill {h : AH} {d bc bs n : Nat} {ρ : Nat → Nat → Int32} {τ : Nat → Int32} {σ : CS} {th : Int32} {x : Int32} {Post : ARes → AH → Nat → Prop} (hM : MM h ρ τ σ th) (hA : AG ρ τ σ) {k : Nat} (hk : k < 11) (hc : σ.2.1 k ≤ 12) (fq : ∀ h' ρ' , MM h' ρ' τ (sU σ k (fiN (σ.1 k) x (σ.2.1 k)) (σ.2.1 k) (σ.2.2.1 k) (σ.2.2.2.1 k + 1)) th → AG ρ' τ (sU σ k (fiN (σ.1 k) x (σ.2.1 k)) (σ.2.1 k) (σ.2.2.1 k) (σ.2.2.2.1 k + 1)) → FrM h h' n → Post (.inl (some (.int (nI (σ.2.1 k))))) h' n) (m : Nat) : ∀ (j : Nat) (g : AH), j + m = σ.2.1 k → g (137 + k) = .inl (0, 12, .inl (fiN (ρ k) x j)) → (∀ i, i ≠ 137 + k → g i = h i) → SW SR0 MX5_fill d bc bs 19 [(3, .int (nI j)), (0, .ref 135), (1, .int (nI k)), (2, .int x)] [] g n Post := by
  obtain ⟨G0, hG0, eG0⟩ := hM.out
  induction m with
  | zero =>
    intro j g hj hr hF
    have hjc : j = σ.2.1 k := by omega
    subst hjc
    refine sw_iload_n (pc' := 20) rfl dX5_fill_19 rfl ?_
    refine sw_aload_n (pc' := 21) rfl dX5_fill_20 rfl ?_
    refine sw_getf (ci := 6) (k := 4) (pc' := 24) rfl dX5_fill_21 (by decide +kernel) w_1117 ((hF 135 (by omega)).trans hM.ob) rfl ?_
    refine sw_iload_n (pc' := 25) rfl dX5_fill_24 rfl ?_
    refine sw_iald (j := k) (pc' := 26) rfl dX5_fill_25 ((hF 148 (by omega)).trans hM.sz) rfl (by omega) (by decide +kernel) ?_
    refine sw_icmp_ge (pc' := 29) (tgt := 44) rfl dX5_fill_26 (by decide +kernel) (fun c26 => ?_) (fun c26 => ?_)
    · refine sw_aload_n (pc' := 45) rfl dX5_fill_44 rfl ?_
      refine sw_getf (ci := 6) (k := 12) (pc' := 48) rfl dX5_fill_45 (by decide +kernel) w_1125 ((hF 135 (by omega)).trans hM.ob) rfl ?_
      refine sw_iload_n (pc' := 49) rfl dX5_fill_48 rfl ?_
      refine sw_dup2 (pc' := 50) rfl dX5_fill_49 rfl rfl ?_
      refine sw_iald (j := k) (pc' := 51) rfl dX5_fill_50 ((hF 156 (by omega)).trans hM.tu) rfl (by omega) (by decide +kernel) ?_
      refine sw_iconst (pc' := 52) (v := 1) rfl dX5_fill_51 (by decide +kernel) ?_
      refine sw_iadd (pc' := 53) rfl dX5_fill_52 ?_
      refine sw_iast (j := k) (pc' := 54) rfl dX5_fill_53 ((hF 156 (by omega)).trans hM.tu) (by decide +kernel) rfl (by omega) (by decide +kernel) ?_
      refine sw_nm (fun g1 eg1 => ?_)
      have zg1 := (congrFun eg1 156).trans (up_s (h := g) (i := 156))
      refine sw_aload_n (pc' := 55) rfl dX5_fill_54 rfl ?_
      refine sw_getf (ci := 6) (k := 4) (pc' := 58) rfl dX5_fill_55 (by decide +kernel) w_1117 (((congrFun eg1 135).trans (up_n (by omega))).trans ((hF 135 (by omega)).trans hM.ob)) rfl ?_
      refine sw_iload_n (pc' := 59) rfl dX5_fill_58 rfl ?_
      refine sw_iald (j := k) (pc' := 60) rfl dX5_fill_59 (((congrFun eg1 148).trans (up_n (by omega))).trans ((hF 148 (by omega)).trans hM.sz)) rfl (by omega) (by decide +kernel) ?_
      refine sw_ret (v := some _) ⟨dX5_fill_60, _, rfl, rfl⟩ ?_
      exact fq g1 _ (hM.rwT hk (((congrFun eg1 (137 + k)).trans (up_n (by omega))).trans hr) zg1 (fun i h1 h2 => (congrFun eg1 i).trans ((up_n h2).trans (hF i h1)))) (hA.shU (fiN_at)) (FrM.of1 (fun i q => (congrFun eg1 i).trans ((up_n (by omega)).trans (hF i (by omega)))))
    · exact absurd (Int32.le_refl _) c26
  | succ m ih =>
    intro j g hj hr hF
    refine sw_iload_n (pc' := 20) rfl dX5_fill_19 rfl ?_
    refine sw_aload_n (pc' := 21) rfl dX5_fill_20 rfl ?_
    refine sw_getf (ci := 6) (k := 4) (pc' := 24) rfl dX5_fill_21 (by decide +kernel) w_1117 ((hF 135 (by omega)).trans hM.ob) rfl ?_
    refine sw_iload_n (pc' := 25) rfl dX5_fill_24 rfl ?_
    refine sw_iald (j := k) (pc' := 26) rfl dX5_fill_25 ((hF 148 (by omega)).trans hM.sz) rfl (by omega) (by decide +kernel) ?_
    refine sw_icmp_ge (pc' := 29) (tgt := 44) rfl dX5_fill_26 (by decide +kernel) (fun c26 => ?_) (fun c26 => ?_)
    · exact absurd c26 (nI_ge (by omega) (by omega))
    · refine sw_aload_n (pc' := 30) rfl dX5_fill_29 rfl ?_
      refine sw_getf (ci := 6) (k := 3) (pc' := 33) rfl dX5_fill_30 (by decide +kernel) w_1116 ((hF 135 (by omega)).trans hM.ob) rfl ?_
      refine sw_iload_n (pc' := 34) rfl dX5_fill_33 rfl ?_
      refine sw_aald (j := k) (pc' := 35) rfl dX5_fill_34 ((hF 136 (by omega)).trans hG0) (by decide +kernel) (by decide +kernel) rfl (by omega) (by decide +kernel) (eG0 k (by omega)) ?_
      refine sw_iload_n (pc' := 36) rfl dX5_fill_35 rfl ?_
      refine sw_iload_n (pc' := 37) rfl dX5_fill_36 rfl ?_
      refine sw_iast (j := j) (pc' := 38) rfl dX5_fill_37 hr (by show 100 ≤ _; omega) rfl (by omega) (by decide +kernel) ?_
      refine sw_nm (fun g2 eg2 => ?_)
      have zg2 := (congrFun eg2 (137 + k)).trans (up_s (h := g) (i := (137 + k)))
      refine sw_iinc (pc' := 41) (lv' := [(3, _), (0, _), (1, _), (2, _)]) (v := nI (j + 1)) rfl dX5_fill_38 rfl (nI_1 j) (by decide +kernel) rfl ?_
      refine sw_goto (tgt := 19) dX5_fill_41 (by decide +kernel) ?_
      exact ih (j + 1) g2 (by omega) (fiN_s2 ▸ zg2) (fun i h1 => (congrFun eg2 i).trans ((up_n h1).trans (hF i h1)))
theorem q_fill {h : AH} {d bc bs n : Nat} {σ : CS} {th : Int32} {a x : Int32} (hR : RMo h σ th) (hI : Iv σ) (hn : 159 ≤ n) (hd : 8 ≤ d) (h1 : 1 ≤ bc) (h2 : 12 ≤ bs)  : SM SR0 MX5_fill d bc bs [.ref 135, .int a, .int x] h n (PM h n (tc sI sA) (opFill σ a x)) := by
  obtain ⟨ρ, τ, hM, hA⟩ := hR
  obtain ⟨G0, hG0, eG0⟩ := hM.out
  refine sm_of pn_OverwalksModel rfl (Nat.le_of_ble_eq_true rfl) ?_
  rcases idxN 11 (by decide +kernel) a with qk1 | ⟨k, hk, rfl⟩
  · refine sw_aload_n (pc' := 1) rfl dX5_fill_0 rfl ?_
    refine sw_iload_n (pc' := 2) rfl dX5_fill_1 rfl ?_
    refine sw_S (M' := MX5_isNoRow) (d' := d - 1) (bc' := 0) (bs' := 0) (as := [_]) dX5_fill_2 w_1267 ok_X5_isNoRow (q_isNoRow (by omega)) (by omega) (Nat.le_of_ble_eq_true rfl) (Nat.zero_le _) (Nat.zero_le _) (fun E h' n' _ z => det_x z) (det_k ?_)
    rw [show nrB a = true from nrB_x qk1]
    show SW _ _ _ _ _ _ _ (.int 1 :: _) _ _ _
    refine sw_iload_n (pc' := 6) rfl dX5_fill_5 rfl ?_
    refine sw_S (M' := MX5_isNoThing) (d' := d - 1) (bc' := 0) (bs' := 0) (as := [_]) dX5_fill_6 w_1171 ok_X5_isNoThing (q_isNoThing (by omega)) (by omega) (Nat.le_of_ble_eq_true rfl) (Nat.zero_le _) (Nat.zero_le _) (fun E h' n' _ z => det_x z) (det_k ?_)
    refine sw_V (M' := MX5_isStopped_) (d' := d - 1) (bc' := 0) (bs' := 0) (ci := 6) (as := [_, _]) dX5_fill_9 w_1215 ok_X5_isStopped_ (q_isStopped2 (a := true) (b := (!inB x 0 100)) hM hA (by omega)) hM.ob rfl (by omega) (Nat.le_of_ble_eq_true rfl) (Nat.zero_le _) (Nat.zero_le _) (fun E h' n' _ z => rp_x z) (rp_k (fun p9 p9ρ p9τ p9M p9A p9F => ?_))
    obtain ⟨Gp9, hGp9, eGp9⟩ := p9M.out
    show SW _ _ _ _ _ _ _ (.int 1 :: _) _ _ _
    refine sw_if_eq (pc' := 15) (tgt := 17) rfl dX5_fill_12 (by decide +kernel) (fun c12 => ?_) (fun c12 => ?_)
    · exact absurd c12 (by decide +kernel)
    · refine sw_iconst (pc' := 16) (v := 0) rfl dX5_fill_15 (by decide +kernel) ?_
      refine sw_ret (v := some _) ⟨dX5_fill_16, _, rfl, rfl⟩ ?_
      rw [opFill, onRw_x qk1]
      exact pm_x tc_1 p9M p9A p9F (Nat.le_refl _)
  rcases Classical.em (kP (kdO k) = false) with qk | qk
  · refine sw_aload_n (pc' := 1) rfl dX5_fill_0 rfl ?_
    refine sw_iload_n (pc' := 2) rfl dX5_fill_1 rfl ?_
    refine sw_S (M' := MX5_isNoRow) (d' := d - 1) (bc' := 0) (bs' := 0) (as := [_]) dX5_fill_2 w_1267 ok_X5_isNoRow (q_isNoRow (by omega)) (by omega) (Nat.le_of_ble_eq_true rfl) (Nat.zero_le _) (Nat.zero_le _) (fun E h' n' _ z => det_x z) (det_k ?_)
    rw [show nrB (nI k) = true from nrB_y hk qk]
    show SW _ _ _ _ _ _ _ (.int 1 :: _) _ _ _
    refine sw_iload_n (pc' := 6) rfl dX5_fill_5 rfl ?_
    refine sw_S (M' := MX5_isNoThing) (d' := d - 1) (bc' := 0) (bs' := 0) (as := [_]) dX5_fill_6 w_1171 ok_X5_isNoThing (q_isNoThing (by omega)) (by omega) (Nat.le_of_ble_eq_true rfl) (Nat.zero_le _) (Nat.zero_le _) (fun E h' n' _ z => det_x z) (det_k ?_)
    refine sw_V (M' := MX5_isStopped_) (d' := d - 1) (bc' := 0) (bs' := 0) (ci := 6) (as := [_, _]) dX5_fill_9 w_1215 ok_X5_isStopped_ (q_isStopped2 (a := true) (b := (!inB x 0 100)) hM hA (by omega)) hM.ob rfl (by omega) (Nat.le_of_ble_eq_true rfl) (Nat.zero_le _) (Nat.zero_le _) (fun E h' n' _ z => rp_x z) (rp_k (fun p9 p9ρ p9τ p9M p9A p9F => ?_))
    obtain ⟨Gp9, hGp9, eGp9⟩ := p9M.out
    show SW _ _ _ _ _ _ _ (.int 1 :: _) _ _ _
    refine sw_if_eq (pc' := 15) (tgt := 17) rfl dX5_fill_12 (by decide +kernel) (fun c12 => ?_) (fun c12 => ?_)
    · exact absurd c12 (by decide +kernel)
    · refine sw_iconst (pc' := 16) (v := 0) rfl dX5_fill_15 (by decide +kernel) ?_
      refine sw_ret (v := some _) ⟨dX5_fill_16, _, rfl, rfl⟩ ?_
      rw [opFill, onRw_y hk qk]
      exact pm_x tc_1 p9M p9A p9F (Nat.le_refl _)
  have hck := hI.1 k hk
  rcases Classical.em (x < 0 ∨ 100 < x) with qx | qx
  · refine sw_aload_n (pc' := 1) rfl dX5_fill_0 rfl ?_
    refine sw_iload_n (pc' := 2) rfl dX5_fill_1 rfl ?_
    refine sw_S (M' := MX5_isNoRow) (d' := d - 1) (bc' := 0) (bs' := 0) (as := [_]) dX5_fill_2 w_1267 ok_X5_isNoRow (q_isNoRow (by omega)) (by omega) (Nat.le_of_ble_eq_true rfl) (Nat.zero_le _) (Nat.zero_le _) (fun E h' n' _ z => det_x z) (det_k ?_)
    rw [show nrB (nI k) = false from nrB_k hk qk]
    show SW _ _ _ _ _ _ _ (.int 0 :: _) _ _ _
    refine sw_iload_n (pc' := 6) rfl dX5_fill_5 rfl ?_
    refine sw_S (M' := MX5_isNoThing) (d' := d - 1) (bc' := 0) (bs' := 0) (as := [_]) dX5_fill_6 w_1171 ok_X5_isNoThing (q_isNoThing (by omega)) (by omega) (Nat.le_of_ble_eq_true rfl) (Nat.zero_le _) (Nat.zero_le _) (fun E h' n' _ z => det_x z) (det_k ?_)
    rw [show inB x 0 100 = false from inB_x qx]
    show SW _ _ _ _ _ _ _ (.int 1 :: _) _ _ _
    refine sw_V (M' := MX5_isStopped_) (d' := d - 1) (bc' := 0) (bs' := 0) (ci := 6) (as := [_, _]) dX5_fill_9 w_1215 ok_X5_isStopped_ (q_isStopped2 (a := false) (b := true) hM hA (by omega)) hM.ob rfl (by omega) (Nat.le_of_ble_eq_true rfl) (Nat.zero_le _) (Nat.zero_le _) (fun E h' n' _ z => rp_x z) (rp_k (fun p9 p9ρ p9τ p9M p9A p9F => ?_))
    obtain ⟨Gp9, hGp9, eGp9⟩ := p9M.out
    show SW _ _ _ _ _ _ _ (.int 1 :: _) _ _ _
    refine sw_if_eq (pc' := 15) (tgt := 17) rfl dX5_fill_12 (by decide +kernel) (fun c12 => ?_) (fun c12 => ?_)
    · exact absurd c12 (by decide +kernel)
    · refine sw_iconst (pc' := 16) (v := 0) rfl dX5_fill_15 (by decide +kernel) ?_
      refine sw_ret (v := some _) ⟨dX5_fill_16, _, rfl, rfl⟩ ?_
      rw [opFill, onRw_k hk qk, if_pos qx]
      exact pm_x (tc_2 sAI) p9M p9A p9F (Nat.le_refl _)
  refine sw_aload_n (pc' := 1) rfl dX5_fill_0 rfl ?_
  refine sw_iload_n (pc' := 2) rfl dX5_fill_1 rfl ?_
  refine sw_S (M' := MX5_isNoRow) (d' := d - 1) (bc' := 0) (bs' := 0) (as := [_]) dX5_fill_2 w_1267 ok_X5_isNoRow (q_isNoRow (by omega)) (by omega) (Nat.le_of_ble_eq_true rfl) (Nat.zero_le _) (Nat.zero_le _) (fun E h' n' _ z => det_x z) (det_k ?_)
  rw [show nrB (nI k) = false from nrB_k hk qk]
  show SW _ _ _ _ _ _ _ (.int 0 :: _) _ _ _
  refine sw_iload_n (pc' := 6) rfl dX5_fill_5 rfl ?_
  refine sw_S (M' := MX5_isNoThing) (d' := d - 1) (bc' := 0) (bs' := 0) (as := [_]) dX5_fill_6 w_1171 ok_X5_isNoThing (q_isNoThing (by omega)) (by omega) (Nat.le_of_ble_eq_true rfl) (Nat.zero_le _) (Nat.zero_le _) (fun E h' n' _ z => det_x z) (det_k ?_)
  rw [show inB x 0 100 = true from inB_n qx]
  show SW _ _ _ _ _ _ _ (.int 0 :: _) _ _ _
  refine sw_V (M' := MX5_isStopped_) (d' := d - 1) (bc' := 0) (bs' := 0) (ci := 6) (as := [_, _]) dX5_fill_9 w_1215 ok_X5_isStopped_ (q_isStopped2 (a := false) (b := false) hM hA (by omega)) hM.ob rfl (by omega) (Nat.le_of_ble_eq_true rfl) (Nat.zero_le _) (Nat.zero_le _) (fun E h' n' _ z => rp_x z) (rp_k (fun p9 p9ρ p9τ p9M p9A p9F => ?_))
  obtain ⟨Gp9, hGp9, eGp9⟩ := p9M.out
  show SW _ _ _ _ _ _ _ (.int 0 :: _) _ _ _
  refine sw_if_eq (pc' := 15) (tgt := 17) rfl dX5_fill_12 (by decide +kernel) (fun c12 => ?_) (fun c12 => ?_)
  · refine sw_iconst (pc' := 18) (v := 0) rfl dX5_fill_17 (by decide +kernel) ?_
    refine sw_istore_n (pc' := 19) (lv' := [(3, _), (0, _), (1, _), (2, _)]) rfl dX5_fill_18 (by decide +kernel) rfl ?_
    refine ql_fill p9M p9A hk hck (fun p p' qM qA qF => ?_) (σ.2.1 k) 0 p9 (by omega) (by rw [fiN_z]; exact p9M.row hk) (fun _ _ => rfl)
    rw [opFill, onRw_k hk qk, if_neg qx]
    exact pm_k qM qA (p9F.tr qF (Nat.le_refl _)) (Nat.le_refl _)
  · exact absurd c12 (by decide +kernel)
theorem ql_replace {h : AH} {d bc bs n : Nat} {ρ : Nat → Nat → Int32} {τ : Nat → Int32} {σ : CS} {th : Int32} {x y : Int32} {w : Bool} {Post : ARes → AH → Nat → Prop} (hd : 1 ≤ d) (hM : MM h ρ τ σ th) (hA : AG ρ τ σ) {k : Nat} (hk : k < 11) (hc : σ.2.1 k ≤ 12) (fq : ∀ h' ρ' , MM h' ρ' τ (sU σ k (rpF (σ.1 k) x y (σ.2.1 k)) (σ.2.1 k) (σ.2.2.1 k) (σ.2.2.2.1 k + 1)) th → AG ρ' τ (sU σ k (rpF (σ.1 k) x y (σ.2.1 k)) (σ.2.1 k) (σ.2.2.1 k) (σ.2.2.2.1 k + 1)) → FrM h h' n → Post (.inl (some (.int (bI w)))) h' n) (m : Nat) : ∀ (j : Nat) (g : AH), j + m = σ.2.1 k → g (137 + k) = .inl (0, 12, .inl (rpF (ρ k) x y j)) → (∀ i, i ≠ 137 + k → g i = h i) → SW SR0 MX5_replace d bc bs 51 [(5, .int (nI j)), (4, .int (bI w)), (0, .ref 135), (1, .int (nI k)), (2, .int x), (3, .int y)] [] g n Post := by
  obtain ⟨G0, hG0, eG0⟩ := hM.out
  induction m with
  | zero =>
    intro j g hj hr hF
    have hjc : j = σ.2.1 k := by omega
    subst hjc
    refine sw_iload (pc' := 53) rfl dX5_replace_51 rfl ?_
    refine sw_aload_n (pc' := 54) rfl dX5_replace_53 rfl ?_
    refine sw_getf (ci := 6) (k := 4) (pc' := 57) rfl dX5_replace_54 (by decide +kernel) w_1117 ((hF 135 (by omega)).trans hM.ob) rfl ?_
    refine sw_iload_n (pc' := 58) rfl dX5_replace_57 rfl ?_
    refine sw_iald (j := k) (pc' := 59) rfl dX5_replace_58 ((hF 148 (by omega)).trans hM.sz) rfl (by omega) (by decide +kernel) ?_
    refine sw_icmp_ge (pc' := 62) (tgt := 103) rfl dX5_replace_59 (by decide +kernel) (fun c59 => ?_) (fun c59 => ?_)
    · refine sw_aload_n (pc' := 104) rfl dX5_replace_103 rfl ?_
      refine sw_getf (ci := 6) (k := 12) (pc' := 107) rfl dX5_replace_104 (by decide +kernel) w_1125 ((hF 135 (by omega)).trans hM.ob) rfl ?_
      refine sw_iload_n (pc' := 108) rfl dX5_replace_107 rfl ?_
      refine sw_dup2 (pc' := 109) rfl dX5_replace_108 rfl rfl ?_
      refine sw_iald (j := k) (pc' := 110) rfl dX5_replace_109 ((hF 156 (by omega)).trans hM.tu) rfl (by omega) (by decide +kernel) ?_
      refine sw_iconst (pc' := 111) (v := 1) rfl dX5_replace_110 (by decide +kernel) ?_
      refine sw_iadd (pc' := 112) rfl dX5_replace_111 ?_
      refine sw_iast (j := k) (pc' := 113) rfl dX5_replace_112 ((hF 156 (by omega)).trans hM.tu) (by decide +kernel) rfl (by omega) (by decide +kernel) ?_
      refine sw_nm (fun g1 eg1 => ?_)
      have zg1 := (congrFun eg1 156).trans (up_s (h := g) (i := 156))
      refine sw_iload (pc' := 115) rfl dX5_replace_113 rfl ?_
      refine sw_S (M' := MX5_one) (d' := d - 1) (bc' := 0) (bs' := 0) (as := [_]) dX5_replace_115 w_1196 ok_X5_one (q_one (q := w)) (by omega) (Nat.le_of_ble_eq_true rfl) (Nat.zero_le _) (Nat.zero_le _) (fun E h' n' _ z => det_x z) (det_k ?_)
      refine sw_ret (v := some _) ⟨dX5_replace_118, _, rfl, rfl⟩ ?_
      exact fq g1 _ (hM.rwT hk (((congrFun eg1 (137 + k)).trans (up_n (by omega))).trans hr) zg1 (fun i h1 h2 => (congrFun eg1 i).trans ((up_n h2).trans (hF i h1)))) (hA.shU (rpF_at (hA.1 k hk))) (FrM.of1 (fun i q => (congrFun eg1 i).trans ((up_n (by omega)).trans (hF i (by omega)))))
    · exact absurd (Int32.le_refl _) c59
  | succ m ih =>
    intro j g hj hr hF
    refine sw_iload (pc' := 53) rfl dX5_replace_51 rfl ?_
    refine sw_aload_n (pc' := 54) rfl dX5_replace_53 rfl ?_
    refine sw_getf (ci := 6) (k := 4) (pc' := 57) rfl dX5_replace_54 (by decide +kernel) w_1117 ((hF 135 (by omega)).trans hM.ob) rfl ?_
    refine sw_iload_n (pc' := 58) rfl dX5_replace_57 rfl ?_
    refine sw_iald (j := k) (pc' := 59) rfl dX5_replace_58 ((hF 148 (by omega)).trans hM.sz) rfl (by omega) (by decide +kernel) ?_
    refine sw_icmp_ge (pc' := 62) (tgt := 103) rfl dX5_replace_59 (by decide +kernel) (fun c59 => ?_) (fun c59 => ?_)
    · exact absurd c59 (nI_ge (by omega) (by omega))
    · refine sw_aload_n (pc' := 63) rfl dX5_replace_62 rfl ?_
      refine sw_getf (ci := 6) (k := 3) (pc' := 66) rfl dX5_replace_63 (by decide +kernel) w_1116 ((hF 135 (by omega)).trans hM.ob) rfl ?_
      refine sw_iload_n (pc' := 67) rfl dX5_replace_66 rfl ?_
      refine sw_aald (j := k) (pc' := 68) rfl dX5_replace_67 ((hF 136 (by omega)).trans hG0) (by decide +kernel) (by decide +kernel) rfl (by omega) (by decide +kernel) (eG0 k (by omega)) ?_
      refine sw_iload (pc' := 70) rfl dX5_replace_68 rfl ?_
      refine sw_aload_n (pc' := 71) rfl dX5_replace_70 rfl ?_
      refine sw_getf (ci := 6) (k := 3) (pc' := 74) rfl dX5_replace_71 (by decide +kernel) w_1116 ((hF 135 (by omega)).trans hM.ob) rfl ?_
      refine sw_iload_n (pc' := 75) rfl dX5_replace_74 rfl ?_
      refine sw_aald (j := k) (pc' := 76) rfl dX5_replace_75 ((hF 136 (by omega)).trans hG0) (by decide +kernel) (by decide +kernel) rfl (by omega) (by decide +kernel) (eG0 k (by omega)) ?_
      refine sw_iload (pc' := 78) rfl dX5_replace_76 rfl ?_
      refine sw_iald (j := j) (pc' := 79) rfl dX5_replace_78 hr rfl (by omega) (by decide +kernel) ?_
      rw [rpF_a]
      refine sw_iload_n (pc' := 80) rfl dX5_replace_79 rfl ?_
      refine sw_icmp_ne (pc' := 83) (tgt := 87) rfl dX5_replace_80 (by decide +kernel) (fun c80 => ?_) (fun c80 => ?_)
      · refine sw_aload_n (pc' := 88) rfl dX5_replace_87 rfl ?_
        refine sw_getf (ci := 6) (k := 3) (pc' := 91) rfl dX5_replace_88 (by decide +kernel) w_1116 ((hF 135 (by omega)).trans hM.ob) rfl ?_
        refine sw_iload_n (pc' := 92) rfl dX5_replace_91 rfl ?_
        refine sw_aald (j := k) (pc' := 93) rfl dX5_replace_92 ((hF 136 (by omega)).trans hG0) (by decide +kernel) (by decide +kernel) rfl (by omega) (by decide +kernel) (eG0 k (by omega)) ?_
        refine sw_iload (pc' := 95) rfl dX5_replace_93 rfl ?_
        refine sw_iald (j := j) (pc' := 96) rfl dX5_replace_95 hr rfl (by omega) (by decide +kernel) ?_
        rw [rpF_a]
        refine sw_iast (j := j) (pc' := 97) rfl dX5_replace_96 hr (by show 100 ≤ _; omega) rfl (by omega) (by decide +kernel) ?_
        refine sw_nm (fun g2 eg2 => ?_)
        have zg2 := (congrFun eg2 (137 + k)).trans (up_s (h := g) (i := (137 + k)))
        refine sw_iinc (pc' := 100) (lv' := [(5, _), (4, _), (0, _), (1, _), (2, _), (3, _)]) (v := nI (j + 1)) rfl dX5_replace_97 rfl (nI_1 j) (by decide +kernel) rfl ?_
        refine sw_goto (tgt := 51) dX5_replace_100 (by decide +kernel) ?_
        exact ih (j + 1) g2 (by omega) ((rpF_m2 c80) ▸ zg2) (fun i h1 => (congrFun eg2 i).trans ((up_n h1).trans (hF i h1)))
      · refine sw_iload_n (pc' := 84) rfl dX5_replace_83 rfl ?_
        refine sw_goto (tgt := 96) dX5_replace_84 (by decide +kernel) ?_
        refine sw_iast (j := j) (pc' := 97) rfl dX5_replace_96 hr (by show 100 ≤ _; omega) rfl (by omega) (by decide +kernel) ?_
        refine sw_nm (fun g3 eg3 => ?_)
        have zg3 := (congrFun eg3 (137 + k)).trans (up_s (h := g) (i := (137 + k)))
        refine sw_iinc (pc' := 100) (lv' := [(5, _), (4, _), (0, _), (1, _), (2, _), (3, _)]) (v := nI (j + 1)) rfl dX5_replace_97 rfl (nI_1 j) (by decide +kernel) rfl ?_
        refine sw_goto (tgt := 51) dX5_replace_100 (by decide +kernel) ?_
        exact ih (j + 1) g3 (by omega) ((rpF_p c80) ▸ zg3) (fun i h1 => (congrFun eg3 i).trans ((up_n h1).trans (hF i h1)))
theorem q_replace {h : AH} {d bc bs n : Nat} {σ : CS} {th : Int32} {a x y : Int32} (hR : RMo h σ th) (hI : Iv σ) (hn : 159 ≤ n) (hd : 8 ≤ d) (h1 : 1 ≤ bc) (h2 : 12 ≤ bs)  : SM SR0 MX5_replace d bc bs [.ref 135, .int a, .int x, .int y] h n (PM h n (tc sI sA) (opReplace σ a x y)) := by
  obtain ⟨ρ, τ, hM, hA⟩ := hR
  obtain ⟨G0, hG0, eG0⟩ := hM.out
  refine sm_of pn_OverwalksModel rfl (Nat.le_of_ble_eq_true rfl) ?_
  rcases idxN 11 (by decide +kernel) a with qk1 | ⟨k, hk, rfl⟩
  · refine sw_aload_n (pc' := 1) rfl dX5_replace_0 rfl ?_
    refine sw_iload_n (pc' := 2) rfl dX5_replace_1 rfl ?_
    refine sw_S (M' := MX5_isNoRow) (d' := d - 1) (bc' := 0) (bs' := 0) (as := [_]) dX5_replace_2 w_1267 ok_X5_isNoRow (q_isNoRow (by omega)) (by omega) (Nat.le_of_ble_eq_true rfl) (Nat.zero_le _) (Nat.zero_le _) (fun E h' n' _ z => det_x z) (det_k ?_)
    rw [show nrB a = true from nrB_x qk1]
    show SW _ _ _ _ _ _ _ (.int 1 :: _) _ _ _
    refine sw_iload_n (pc' := 6) rfl dX5_replace_5 rfl ?_
    refine sw_S (M' := MX5_isNoThing) (d' := d - 1) (bc' := 0) (bs' := 0) (as := [_]) dX5_replace_6 w_1171 ok_X5_isNoThing (q_isNoThing (by omega)) (by omega) (Nat.le_of_ble_eq_true rfl) (Nat.zero_le _) (Nat.zero_le _) (fun E h' n' _ z => det_x z) (det_k ?_)
    refine sw_if_ne (pc' := 12) (tgt := 19) rfl dX5_replace_9 (by decide +kernel) (fun c9 => ?_) (fun c9 => ?_)
    · refine sw_iconst (pc' := 20) (v := 1) rfl dX5_replace_19 (by decide +kernel) ?_
      refine sw_goto (tgt := 24) dX5_replace_20 (by decide +kernel) ?_
      refine sw_V (M' := MX5_isStopped_) (d' := d - 1) (bc' := 0) (bs' := 0) (ci := 6) (as := [_, _]) dX5_replace_24 w_1215 ok_X5_isStopped_ (q_isStopped2 (a := true) (b := true) hM hA (by omega)) hM.ob rfl (by omega) (Nat.le_of_ble_eq_true rfl) (Nat.zero_le _) (Nat.zero_le _) (fun E h' n' _ z => rp_x z) (rp_k (fun p24 p24ρ p24τ p24M p24A p24F => ?_))
      obtain ⟨Gp24, hGp24, eGp24⟩ := p24M.out
      show SW _ _ _ _ _ _ _ (.int 1 :: _) _ _ _
      refine sw_if_eq (pc' := 30) (tgt := 32) rfl dX5_replace_27 (by decide +kernel) (fun c27 => ?_) (fun c27 => ?_)
      · exact absurd c27 (by decide +kernel)
      · refine sw_iconst (pc' := 31) (v := 0) rfl dX5_replace_30 (by decide +kernel) ?_
        refine sw_ret (v := some _) ⟨dX5_replace_31, _, rfl, rfl⟩ ?_
        rw [opReplace, onRw_x qk1]
        exact pm_x tc_1 p24M p24A p24F (Nat.le_refl _)
    · refine sw_iload_n (pc' := 13) rfl dX5_replace_12 rfl ?_
      refine sw_S (M' := MX5_isNoThing) (d' := d - 1) (bc' := 0) (bs' := 0) (as := [_]) dX5_replace_13 w_1171 ok_X5_isNoThing (q_isNoThing (by omega)) (by omega) (Nat.le_of_ble_eq_true rfl) (Nat.zero_le _) (Nat.zero_le _) (fun E h' n' _ z => det_x z) (det_k ?_)
      refine sw_if_eq (pc' := 19) (tgt := 23) rfl dX5_replace_16 (by decide +kernel) (fun c16 => ?_) (fun c16 => ?_)
      · refine sw_iconst (pc' := 24) (v := 0) rfl dX5_replace_23 (by decide +kernel) ?_
        refine sw_V (M' := MX5_isStopped_) (d' := d - 1) (bc' := 0) (bs' := 0) (ci := 6) (as := [_, _]) dX5_replace_24 w_1215 ok_X5_isStopped_ (q_isStopped2 (a := true) (b := false) hM hA (by omega)) hM.ob rfl (by omega) (Nat.le_of_ble_eq_true rfl) (Nat.zero_le _) (Nat.zero_le _) (fun E h' n' _ z => rp_x z) (rp_k (fun p24 p24ρ p24τ p24M p24A p24F => ?_))
        obtain ⟨Gp24, hGp24, eGp24⟩ := p24M.out
        show SW _ _ _ _ _ _ _ (.int 1 :: _) _ _ _
        refine sw_if_eq (pc' := 30) (tgt := 32) rfl dX5_replace_27 (by decide +kernel) (fun c27 => ?_) (fun c27 => ?_)
        · exact absurd c27 (by decide +kernel)
        · refine sw_iconst (pc' := 31) (v := 0) rfl dX5_replace_30 (by decide +kernel) ?_
          refine sw_ret (v := some _) ⟨dX5_replace_31, _, rfl, rfl⟩ ?_
          rw [opReplace, onRw_x qk1]
          exact pm_x tc_1 p24M p24A p24F (Nat.le_refl _)
      · refine sw_iconst (pc' := 20) (v := 1) rfl dX5_replace_19 (by decide +kernel) ?_
        refine sw_goto (tgt := 24) dX5_replace_20 (by decide +kernel) ?_
        refine sw_V (M' := MX5_isStopped_) (d' := d - 1) (bc' := 0) (bs' := 0) (ci := 6) (as := [_, _]) dX5_replace_24 w_1215 ok_X5_isStopped_ (q_isStopped2 (a := true) (b := true) hM hA (by omega)) hM.ob rfl (by omega) (Nat.le_of_ble_eq_true rfl) (Nat.zero_le _) (Nat.zero_le _) (fun E h' n' _ z => rp_x z) (rp_k (fun p24 p24ρ p24τ p24M p24A p24F => ?_))
        obtain ⟨Gp24, hGp24, eGp24⟩ := p24M.out
        show SW _ _ _ _ _ _ _ (.int 1 :: _) _ _ _
        refine sw_if_eq (pc' := 30) (tgt := 32) rfl dX5_replace_27 (by decide +kernel) (fun c27 => ?_) (fun c27 => ?_)
        · exact absurd c27 (by decide +kernel)
        · refine sw_iconst (pc' := 31) (v := 0) rfl dX5_replace_30 (by decide +kernel) ?_
          refine sw_ret (v := some _) ⟨dX5_replace_31, _, rfl, rfl⟩ ?_
          rw [opReplace, onRw_x qk1]
          exact pm_x tc_1 p24M p24A p24F (Nat.le_refl _)
  rcases Classical.em (kP (kdO k) = false) with qk | qk
  · refine sw_aload_n (pc' := 1) rfl dX5_replace_0 rfl ?_
    refine sw_iload_n (pc' := 2) rfl dX5_replace_1 rfl ?_
    refine sw_S (M' := MX5_isNoRow) (d' := d - 1) (bc' := 0) (bs' := 0) (as := [_]) dX5_replace_2 w_1267 ok_X5_isNoRow (q_isNoRow (by omega)) (by omega) (Nat.le_of_ble_eq_true rfl) (Nat.zero_le _) (Nat.zero_le _) (fun E h' n' _ z => det_x z) (det_k ?_)
    rw [show nrB (nI k) = true from nrB_y hk qk]
    show SW _ _ _ _ _ _ _ (.int 1 :: _) _ _ _
    refine sw_iload_n (pc' := 6) rfl dX5_replace_5 rfl ?_
    refine sw_S (M' := MX5_isNoThing) (d' := d - 1) (bc' := 0) (bs' := 0) (as := [_]) dX5_replace_6 w_1171 ok_X5_isNoThing (q_isNoThing (by omega)) (by omega) (Nat.le_of_ble_eq_true rfl) (Nat.zero_le _) (Nat.zero_le _) (fun E h' n' _ z => det_x z) (det_k ?_)
    refine sw_if_ne (pc' := 12) (tgt := 19) rfl dX5_replace_9 (by decide +kernel) (fun c9 => ?_) (fun c9 => ?_)
    · refine sw_iconst (pc' := 20) (v := 1) rfl dX5_replace_19 (by decide +kernel) ?_
      refine sw_goto (tgt := 24) dX5_replace_20 (by decide +kernel) ?_
      refine sw_V (M' := MX5_isStopped_) (d' := d - 1) (bc' := 0) (bs' := 0) (ci := 6) (as := [_, _]) dX5_replace_24 w_1215 ok_X5_isStopped_ (q_isStopped2 (a := true) (b := true) hM hA (by omega)) hM.ob rfl (by omega) (Nat.le_of_ble_eq_true rfl) (Nat.zero_le _) (Nat.zero_le _) (fun E h' n' _ z => rp_x z) (rp_k (fun p24 p24ρ p24τ p24M p24A p24F => ?_))
      obtain ⟨Gp24, hGp24, eGp24⟩ := p24M.out
      show SW _ _ _ _ _ _ _ (.int 1 :: _) _ _ _
      refine sw_if_eq (pc' := 30) (tgt := 32) rfl dX5_replace_27 (by decide +kernel) (fun c27 => ?_) (fun c27 => ?_)
      · exact absurd c27 (by decide +kernel)
      · refine sw_iconst (pc' := 31) (v := 0) rfl dX5_replace_30 (by decide +kernel) ?_
        refine sw_ret (v := some _) ⟨dX5_replace_31, _, rfl, rfl⟩ ?_
        rw [opReplace, onRw_y hk qk]
        exact pm_x tc_1 p24M p24A p24F (Nat.le_refl _)
    · refine sw_iload_n (pc' := 13) rfl dX5_replace_12 rfl ?_
      refine sw_S (M' := MX5_isNoThing) (d' := d - 1) (bc' := 0) (bs' := 0) (as := [_]) dX5_replace_13 w_1171 ok_X5_isNoThing (q_isNoThing (by omega)) (by omega) (Nat.le_of_ble_eq_true rfl) (Nat.zero_le _) (Nat.zero_le _) (fun E h' n' _ z => det_x z) (det_k ?_)
      refine sw_if_eq (pc' := 19) (tgt := 23) rfl dX5_replace_16 (by decide +kernel) (fun c16 => ?_) (fun c16 => ?_)
      · refine sw_iconst (pc' := 24) (v := 0) rfl dX5_replace_23 (by decide +kernel) ?_
        refine sw_V (M' := MX5_isStopped_) (d' := d - 1) (bc' := 0) (bs' := 0) (ci := 6) (as := [_, _]) dX5_replace_24 w_1215 ok_X5_isStopped_ (q_isStopped2 (a := true) (b := false) hM hA (by omega)) hM.ob rfl (by omega) (Nat.le_of_ble_eq_true rfl) (Nat.zero_le _) (Nat.zero_le _) (fun E h' n' _ z => rp_x z) (rp_k (fun p24 p24ρ p24τ p24M p24A p24F => ?_))
        obtain ⟨Gp24, hGp24, eGp24⟩ := p24M.out
        show SW _ _ _ _ _ _ _ (.int 1 :: _) _ _ _
        refine sw_if_eq (pc' := 30) (tgt := 32) rfl dX5_replace_27 (by decide +kernel) (fun c27 => ?_) (fun c27 => ?_)
        · exact absurd c27 (by decide +kernel)
        · refine sw_iconst (pc' := 31) (v := 0) rfl dX5_replace_30 (by decide +kernel) ?_
          refine sw_ret (v := some _) ⟨dX5_replace_31, _, rfl, rfl⟩ ?_
          rw [opReplace, onRw_y hk qk]
          exact pm_x tc_1 p24M p24A p24F (Nat.le_refl _)
      · refine sw_iconst (pc' := 20) (v := 1) rfl dX5_replace_19 (by decide +kernel) ?_
        refine sw_goto (tgt := 24) dX5_replace_20 (by decide +kernel) ?_
        refine sw_V (M' := MX5_isStopped_) (d' := d - 1) (bc' := 0) (bs' := 0) (ci := 6) (as := [_, _]) dX5_replace_24 w_1215 ok_X5_isStopped_ (q_isStopped2 (a := true) (b := true) hM hA (by omega)) hM.ob rfl (by omega) (Nat.le_of_ble_eq_true rfl) (Nat.zero_le _) (Nat.zero_le _) (fun E h' n' _ z => rp_x z) (rp_k (fun p24 p24ρ p24τ p24M p24A p24F => ?_))
        obtain ⟨Gp24, hGp24, eGp24⟩ := p24M.out
        show SW _ _ _ _ _ _ _ (.int 1 :: _) _ _ _
        refine sw_if_eq (pc' := 30) (tgt := 32) rfl dX5_replace_27 (by decide +kernel) (fun c27 => ?_) (fun c27 => ?_)
        · exact absurd c27 (by decide +kernel)
        · refine sw_iconst (pc' := 31) (v := 0) rfl dX5_replace_30 (by decide +kernel) ?_
          refine sw_ret (v := some _) ⟨dX5_replace_31, _, rfl, rfl⟩ ?_
          rw [opReplace, onRw_y hk qk]
          exact pm_x tc_1 p24M p24A p24F (Nat.le_refl _)
  have hck := hI.1 k hk
  rcases Classical.em (x < 0 ∨ 100 < x) with qx | qx
  · refine sw_aload_n (pc' := 1) rfl dX5_replace_0 rfl ?_
    refine sw_iload_n (pc' := 2) rfl dX5_replace_1 rfl ?_
    refine sw_S (M' := MX5_isNoRow) (d' := d - 1) (bc' := 0) (bs' := 0) (as := [_]) dX5_replace_2 w_1267 ok_X5_isNoRow (q_isNoRow (by omega)) (by omega) (Nat.le_of_ble_eq_true rfl) (Nat.zero_le _) (Nat.zero_le _) (fun E h' n' _ z => det_x z) (det_k ?_)
    rw [show nrB (nI k) = false from nrB_k hk qk]
    show SW _ _ _ _ _ _ _ (.int 0 :: _) _ _ _
    refine sw_iload_n (pc' := 6) rfl dX5_replace_5 rfl ?_
    refine sw_S (M' := MX5_isNoThing) (d' := d - 1) (bc' := 0) (bs' := 0) (as := [_]) dX5_replace_6 w_1171 ok_X5_isNoThing (q_isNoThing (by omega)) (by omega) (Nat.le_of_ble_eq_true rfl) (Nat.zero_le _) (Nat.zero_le _) (fun E h' n' _ z => det_x z) (det_k ?_)
    rw [show inB x 0 100 = false from inB_x qx]
    show SW _ _ _ _ _ _ _ (.int 1 :: _) _ _ _
    refine sw_if_ne (pc' := 12) (tgt := 19) rfl dX5_replace_9 (by decide +kernel) (fun c9 => ?_) (fun c9 => ?_)
    · refine sw_iconst (pc' := 20) (v := 1) rfl dX5_replace_19 (by decide +kernel) ?_
      refine sw_goto (tgt := 24) dX5_replace_20 (by decide +kernel) ?_
      refine sw_V (M' := MX5_isStopped_) (d' := d - 1) (bc' := 0) (bs' := 0) (ci := 6) (as := [_, _]) dX5_replace_24 w_1215 ok_X5_isStopped_ (q_isStopped2 (a := false) (b := true) hM hA (by omega)) hM.ob rfl (by omega) (Nat.le_of_ble_eq_true rfl) (Nat.zero_le _) (Nat.zero_le _) (fun E h' n' _ z => rp_x z) (rp_k (fun p24 p24ρ p24τ p24M p24A p24F => ?_))
      obtain ⟨Gp24, hGp24, eGp24⟩ := p24M.out
      show SW _ _ _ _ _ _ _ (.int 1 :: _) _ _ _
      refine sw_if_eq (pc' := 30) (tgt := 32) rfl dX5_replace_27 (by decide +kernel) (fun c27 => ?_) (fun c27 => ?_)
      · exact absurd c27 (by decide +kernel)
      · refine sw_iconst (pc' := 31) (v := 0) rfl dX5_replace_30 (by decide +kernel) ?_
        refine sw_ret (v := some _) ⟨dX5_replace_31, _, rfl, rfl⟩ ?_
        rw [opReplace, onRw_k hk qk, if_pos qx]
        exact pm_x (tc_2 sAI) p24M p24A p24F (Nat.le_refl _)
    · exact absurd c9 (by decide +kernel)
  rcases Classical.em (y < 0 ∨ 100 < y) with qy | qy
  · refine sw_aload_n (pc' := 1) rfl dX5_replace_0 rfl ?_
    refine sw_iload_n (pc' := 2) rfl dX5_replace_1 rfl ?_
    refine sw_S (M' := MX5_isNoRow) (d' := d - 1) (bc' := 0) (bs' := 0) (as := [_]) dX5_replace_2 w_1267 ok_X5_isNoRow (q_isNoRow (by omega)) (by omega) (Nat.le_of_ble_eq_true rfl) (Nat.zero_le _) (Nat.zero_le _) (fun E h' n' _ z => det_x z) (det_k ?_)
    rw [show nrB (nI k) = false from nrB_k hk qk]
    show SW _ _ _ _ _ _ _ (.int 0 :: _) _ _ _
    refine sw_iload_n (pc' := 6) rfl dX5_replace_5 rfl ?_
    refine sw_S (M' := MX5_isNoThing) (d' := d - 1) (bc' := 0) (bs' := 0) (as := [_]) dX5_replace_6 w_1171 ok_X5_isNoThing (q_isNoThing (by omega)) (by omega) (Nat.le_of_ble_eq_true rfl) (Nat.zero_le _) (Nat.zero_le _) (fun E h' n' _ z => det_x z) (det_k ?_)
    rw [show inB x 0 100 = true from inB_n qx]
    show SW _ _ _ _ _ _ _ (.int 0 :: _) _ _ _
    refine sw_if_ne (pc' := 12) (tgt := 19) rfl dX5_replace_9 (by decide +kernel) (fun c9 => ?_) (fun c9 => ?_)
    · exact absurd c9 (by decide +kernel)
    · refine sw_iload_n (pc' := 13) rfl dX5_replace_12 rfl ?_
      refine sw_S (M' := MX5_isNoThing) (d' := d - 1) (bc' := 0) (bs' := 0) (as := [_]) dX5_replace_13 w_1171 ok_X5_isNoThing (q_isNoThing (by omega)) (by omega) (Nat.le_of_ble_eq_true rfl) (Nat.zero_le _) (Nat.zero_le _) (fun E h' n' _ z => det_x z) (det_k ?_)
      rw [show inB y 0 100 = false from inB_x qy]
      show SW _ _ _ _ _ _ _ (.int 1 :: _) _ _ _
      refine sw_if_eq (pc' := 19) (tgt := 23) rfl dX5_replace_16 (by decide +kernel) (fun c16 => ?_) (fun c16 => ?_)
      · exact absurd c16 (by decide +kernel)
      · refine sw_iconst (pc' := 20) (v := 1) rfl dX5_replace_19 (by decide +kernel) ?_
        refine sw_goto (tgt := 24) dX5_replace_20 (by decide +kernel) ?_
        refine sw_V (M' := MX5_isStopped_) (d' := d - 1) (bc' := 0) (bs' := 0) (ci := 6) (as := [_, _]) dX5_replace_24 w_1215 ok_X5_isStopped_ (q_isStopped2 (a := false) (b := true) hM hA (by omega)) hM.ob rfl (by omega) (Nat.le_of_ble_eq_true rfl) (Nat.zero_le _) (Nat.zero_le _) (fun E h' n' _ z => rp_x z) (rp_k (fun p24 p24ρ p24τ p24M p24A p24F => ?_))
        obtain ⟨Gp24, hGp24, eGp24⟩ := p24M.out
        show SW _ _ _ _ _ _ _ (.int 1 :: _) _ _ _
        refine sw_if_eq (pc' := 30) (tgt := 32) rfl dX5_replace_27 (by decide +kernel) (fun c27 => ?_) (fun c27 => ?_)
        · exact absurd c27 (by decide +kernel)
        · refine sw_iconst (pc' := 31) (v := 0) rfl dX5_replace_30 (by decide +kernel) ?_
          refine sw_ret (v := some _) ⟨dX5_replace_31, _, rfl, rfl⟩ ?_
          rw [opReplace, onRw_k hk qk, if_neg qx, if_pos qy]
          exact pm_x (tc_2 sAI) p24M p24A p24F (Nat.le_refl _)
  refine sw_aload_n (pc' := 1) rfl dX5_replace_0 rfl ?_
  refine sw_iload_n (pc' := 2) rfl dX5_replace_1 rfl ?_
  refine sw_S (M' := MX5_isNoRow) (d' := d - 1) (bc' := 0) (bs' := 0) (as := [_]) dX5_replace_2 w_1267 ok_X5_isNoRow (q_isNoRow (by omega)) (by omega) (Nat.le_of_ble_eq_true rfl) (Nat.zero_le _) (Nat.zero_le _) (fun E h' n' _ z => det_x z) (det_k ?_)
  rw [show nrB (nI k) = false from nrB_k hk qk]
  show SW _ _ _ _ _ _ _ (.int 0 :: _) _ _ _
  refine sw_iload_n (pc' := 6) rfl dX5_replace_5 rfl ?_
  refine sw_S (M' := MX5_isNoThing) (d' := d - 1) (bc' := 0) (bs' := 0) (as := [_]) dX5_replace_6 w_1171 ok_X5_isNoThing (q_isNoThing (by omega)) (by omega) (Nat.le_of_ble_eq_true rfl) (Nat.zero_le _) (Nat.zero_le _) (fun E h' n' _ z => det_x z) (det_k ?_)
  rw [show inB x 0 100 = true from inB_n qx]
  show SW _ _ _ _ _ _ _ (.int 0 :: _) _ _ _
  refine sw_if_ne (pc' := 12) (tgt := 19) rfl dX5_replace_9 (by decide +kernel) (fun c9 => ?_) (fun c9 => ?_)
  · exact absurd c9 (by decide +kernel)
  · refine sw_iload_n (pc' := 13) rfl dX5_replace_12 rfl ?_
    refine sw_S (M' := MX5_isNoThing) (d' := d - 1) (bc' := 0) (bs' := 0) (as := [_]) dX5_replace_13 w_1171 ok_X5_isNoThing (q_isNoThing (by omega)) (by omega) (Nat.le_of_ble_eq_true rfl) (Nat.zero_le _) (Nat.zero_le _) (fun E h' n' _ z => det_x z) (det_k ?_)
    rw [show inB y 0 100 = true from inB_n qy]
    show SW _ _ _ _ _ _ _ (.int 0 :: _) _ _ _
    refine sw_if_eq (pc' := 19) (tgt := 23) rfl dX5_replace_16 (by decide +kernel) (fun c16 => ?_) (fun c16 => ?_)
    · refine sw_iconst (pc' := 24) (v := 0) rfl dX5_replace_23 (by decide +kernel) ?_
      refine sw_V (M' := MX5_isStopped_) (d' := d - 1) (bc' := 0) (bs' := 0) (ci := 6) (as := [_, _]) dX5_replace_24 w_1215 ok_X5_isStopped_ (q_isStopped2 (a := false) (b := false) hM hA (by omega)) hM.ob rfl (by omega) (Nat.le_of_ble_eq_true rfl) (Nat.zero_le _) (Nat.zero_le _) (fun E h' n' _ z => rp_x z) (rp_k (fun p24 p24ρ p24τ p24M p24A p24F => ?_))
      obtain ⟨Gp24, hGp24, eGp24⟩ := p24M.out
      show SW _ _ _ _ _ _ _ (.int 0 :: _) _ _ _
      refine sw_if_eq (pc' := 30) (tgt := 32) rfl dX5_replace_27 (by decide +kernel) (fun c27 => ?_) (fun c27 => ?_)
      · refine sw_aload_n (pc' := 33) rfl dX5_replace_32 rfl ?_
        refine sw_iload_n (pc' := 34) rfl dX5_replace_33 rfl ?_
        refine sw_iload_n (pc' := 35) rfl dX5_replace_34 rfl ?_
        refine sw_V (M' := MX5_count) (d' := d - 1) (bc' := 0) (bs' := 0) (ci := 6) (as := [_, _]) dX5_replace_35 w_1192 ok_X5_count (q_count p24M p24A (k := k) (by omega) (hI.1 k (by omega)) (by omega)) p24M.ob rfl (by omega) (Nat.le_of_ble_eq_true rfl) (Nat.zero_le _) (Nat.zero_le _) (fun E h' n' _ z => det_x z) (det_k ?_)
        have hl35 := coN_le (f := σ.1 k) (x := x) (m := σ.2.1 k) (j := 0)
        refine sw_if_le (pc' := 41) (tgt := 45) rfl dX5_replace_38 (by decide +kernel) (fun c38 => ?_) (fun c38 => ?_)
        · refine sw_iconst (pc' := 46) (v := 0) rfl dX5_replace_45 (by decide +kernel) ?_
          refine sw_istore (pc' := 48) (lv' := [(4, _), (0, _), (1, _), (2, _), (3, _)]) rfl dX5_replace_46 (by decide +kernel) rfl ?_
          refine sw_iconst (pc' := 49) (v := 0) rfl dX5_replace_48 (by decide +kernel) ?_
          refine sw_istore (pc' := 51) (lv' := [(5, _), (4, _), (0, _), (1, _), (2, _), (3, _)]) rfl dX5_replace_49 (by decide +kernel) rfl ?_
          refine ql_replace (w := false) (by omega) p24M p24A hk hck (fun p p' qM qA qF => ?_) (σ.2.1 k) 0 p24 (by omega) (by rw [rpF_z]; exact p24M.row hk) (fun _ _ => rfl)
          rw [opReplace, onRw_k hk qk, if_neg qx, if_neg qy, fp_of_co (fun g => absurd ((nI_gt0 (by omega)).mpr g) (Int32.not_lt.mpr c38))]
          exact pm_k qM qA (p24F.tr qF (Nat.le_refl _)) (Nat.le_refl _)
        · refine sw_iconst (pc' := 42) (v := 1) rfl dX5_replace_41 (by decide +kernel) ?_
          refine sw_goto (tgt := 46) dX5_replace_42 (by decide +kernel) ?_
          refine sw_istore (pc' := 48) (lv' := [(4, _), (0, _), (1, _), (2, _), (3, _)]) rfl dX5_replace_46 (by decide +kernel) rfl ?_
          refine sw_iconst (pc' := 49) (v := 0) rfl dX5_replace_48 (by decide +kernel) ?_
          refine sw_istore (pc' := 51) (lv' := [(5, _), (4, _), (0, _), (1, _), (2, _), (3, _)]) rfl dX5_replace_49 (by decide +kernel) rfl ?_
          refine ql_replace (w := true) (by omega) p24M p24A hk hck (fun p p' qM qA qF => ?_) (σ.2.1 k) 0 p24 (by omega) (by rw [rpF_z]; exact p24M.row hk) (fun _ _ => rfl)
          rw [opReplace, onRw_k hk qk, if_neg qx, if_neg qy, fp_of_co1 ((nI_gt0 (by omega)).mp (Int32.not_le.mp c38))]
          exact pm_k qM qA (p24F.tr qF (Nat.le_refl _)) (Nat.le_refl _)
      · exact absurd c27 (by decide +kernel)
    · exact absurd c16 (by decide +kernel)
theorem ql_copies {h0 : AH} {d bc bs n k M : Nat} {th x : Int32} (hk : k < 11) (hr : ¬ kP (kdO k) = false) (hM9 : M ≤ 12) (hd : 1 ≤ d) (m : Nat) : ∀ (j : Nat) (h : AH) (ρ : Nat → Nat → Int32) (τ : Nat → Int32) (σ : CS), j + m = M → σ.2.1 k + m ≤ 12 → MM h ρ τ σ th → AG ρ τ σ → FrM h0 h n → SW SR0 MX5_copies d bc bs 73 [(4, .int (nI j)), (0, .ref 135), (1, .int (nI k)), (2, .int x), (3, .int (nI M))] [] h n (fun r' h' n' => r' = .inl (some (.int (nI ((ldM k x m σ).2.1 k)))) ∧ n' = n ∧ RMo h' (ldM k x m σ) th ∧ FrM h0 h' n) := by
  induction m with
  | zero =>
    intro j h ρ τ σ hj hc hM hA hF
    obtain ⟨G0, hG0, eG0⟩ := hM.out
    have hjM : j = M := by omega
    subst hjM
    refine sw_iload (pc' := 75) rfl dX5_copies_73 rfl ?_
    refine sw_iload_n (pc' := 76) rfl dX5_copies_75 rfl ?_
    refine sw_icmp_ge (pc' := 79) (tgt := 97) rfl dX5_copies_76 (by decide +kernel) (fun c76 => ?_) (fun c76 => ?_)
    · refine sw_aload_n (pc' := 98) rfl dX5_copies_97 rfl ?_
      refine sw_getf (ci := 6) (k := 4) (pc' := 101) rfl dX5_copies_98 (by decide +kernel) w_1117 hM.ob rfl ?_
      refine sw_iload_n (pc' := 102) rfl dX5_copies_101 rfl ?_
      refine sw_iald (j := k) (pc' := 103) rfl dX5_copies_102 hM.sz rfl (by omega) (by decide +kernel) ?_
      refine sw_ret (v := some _) ⟨dX5_copies_103, _, rfl, rfl⟩ ?_
      exact ⟨rfl, rfl, ⟨_, _, hM, hA⟩, hF⟩
    · exact absurd (Int32.le_refl _) c76
  | succ m ih =>
    intro j h ρ τ σ hj hc hM hA hF
    obtain ⟨G0, hG0, eG0⟩ := hM.out
    rw [ldM, rowU hk hr]
    refine sw_iload (pc' := 75) rfl dX5_copies_73 rfl ?_
    refine sw_iload_n (pc' := 76) rfl dX5_copies_75 rfl ?_
    refine sw_icmp_ge (pc' := 79) (tgt := 97) rfl dX5_copies_76 (by decide +kernel) (fun c76 => ?_) (fun c76 => ?_)
    · exact absurd c76 (nI_ge (by omega) (by omega))
    · refine sw_aload_n (pc' := 80) rfl dX5_copies_79 rfl ?_
      refine sw_iload_n (pc' := 81) rfl dX5_copies_80 rfl ?_
      refine sw_aload_n (pc' := 82) rfl dX5_copies_81 rfl ?_
      refine sw_getf (ci := 6) (k := 4) (pc' := 85) rfl dX5_copies_82 (by decide +kernel) w_1117 hM.ob rfl ?_
      refine sw_iload_n (pc' := 86) rfl dX5_copies_85 rfl ?_
      refine sw_iald (j := k) (pc' := 87) rfl dX5_copies_86 hM.sz rfl (by omega) (by decide +kernel) ?_
      refine sw_iload_n (pc' := 88) rfl dX5_copies_87 rfl ?_
      refine sw_V (M' := MX5_comeAt) (d' := d - 1) (bc' := 0) (bs' := 0) (ci := 6) (as := [_, _, _]) dX5_copies_88 w_1199 ok_X5_comeAt (q_comeAt hM hA hk (by omega) (Nat.le_refl _)) hM.ob rfl (by omega) (Nat.le_of_ble_eq_true rfl) (Nat.zero_le _) (Nat.zero_le _) (fun E h' n' _ z => rp_x z) (rp_k (fun p pρ pτ pM pA pF => ?_))
      obtain ⟨Gp, hGp, eGp⟩ := pM.out
      refine sw_iinc (pc' := 94) (lv' := [(4, _), (0, _), (1, _), (2, _), (3, _)]) (v := nI (j + 1)) rfl dX5_copies_91 rfl (nI_1 j) (by decide +kernel) rfl ?_
      refine sw_goto (tgt := 73) dX5_copies_94 (by decide +kernel) ?_
      have hcc : (la2 σ k (σ.2.1 k) x).2.1 k = σ.2.1 k + 1 := la2_c
      exact ih (j + 1) p pρ pτ _ (by omega) (by omega) pM pA (hF.tr pF (Nat.le_refl _))
theorem q_copies {h : AH} {d bc bs n : Nat} {σ : CS} {th : Int32} {a x m : Int32} (hR : RMo h σ th) (hI : Iv σ) (hn : 159 ≤ n) (hd : 8 ≤ d) (h1 : 1 ≤ bc) (h2 : 12 ≤ bs)  : SM SR0 MX5_copies d bc bs [.ref 135, .int a, .int x, .int m] h n (PM h n (tc sI sA) (opCopies σ a x m)) := by
  obtain ⟨ρ, τ, hM, hA⟩ := hR
  obtain ⟨G0, hG0, eG0⟩ := hM.out
  refine sm_of pn_OverwalksModel rfl (Nat.le_of_ble_eq_true rfl) ?_
  rcases idxN 11 (by decide +kernel) a with qk1 | ⟨k, hk, rfl⟩
  · refine sw_aload_n (pc' := 1) rfl dX5_copies_0 rfl ?_
    refine sw_iload_n (pc' := 2) rfl dX5_copies_1 rfl ?_
    refine sw_S (M' := MX5_isNoRow) (d' := d - 1) (bc' := 0) (bs' := 0) (as := [_]) dX5_copies_2 w_1267 ok_X5_isNoRow (q_isNoRow (by omega)) (by omega) (Nat.le_of_ble_eq_true rfl) (Nat.zero_le _) (Nat.zero_le _) (fun E h' n' _ z => det_x z) (det_k ?_)
    rw [show nrB a = true from nrB_x qk1]
    show SW _ _ _ _ _ _ _ (.int 1 :: _) _ _ _
    refine sw_iload_n (pc' := 6) rfl dX5_copies_5 rfl ?_
    refine sw_S (M' := MX5_isNoThing) (d' := d - 1) (bc' := 0) (bs' := 0) (as := [_]) dX5_copies_6 w_1171 ok_X5_isNoThing (q_isNoThing (by omega)) (by omega) (Nat.le_of_ble_eq_true rfl) (Nat.zero_le _) (Nat.zero_le _) (fun E h' n' _ z => det_x z) (det_k ?_)
    refine sw_if_ne (pc' := 12) (tgt := 22) rfl dX5_copies_9 (by decide +kernel) (fun c9 => ?_) (fun c9 => ?_)
    · refine sw_iconst (pc' := 23) (v := 1) rfl dX5_copies_22 (by decide +kernel) ?_
      refine sw_goto (tgt := 27) dX5_copies_23 (by decide +kernel) ?_
      refine sw_iload_n (pc' := 28) rfl dX5_copies_27 rfl ?_
      refine sw_S (M' := MX5_isNoRow) (d' := d - 1) (bc' := 0) (bs' := 0) (as := [_]) dX5_copies_28 w_1267 ok_X5_isNoRow (q_isNoRow (by omega)) (by omega) (Nat.le_of_ble_eq_true rfl) (Nat.zero_le _) (Nat.zero_le _) (fun E h' n' _ z => det_x z) (det_k ?_)
      rw [show nrB a = true from nrB_x qk1]
      show SW _ _ _ _ _ _ _ (.int 1 :: _) _ _ _
      refine sw_if_ne (pc' := 34) (tgt := 61) rfl dX5_copies_31 (by decide +kernel) (fun c31 => ?_) (fun c31 => ?_)
      · refine sw_iconst (pc' := 62) (v := 0) rfl dX5_copies_61 (by decide +kernel) ?_
        refine sw_V (M' := MX5_isStopped) (d' := d - 1) (bc' := 0) (bs' := 0) (ci := 6) (as := [_, _, _]) dX5_copies_62 w_1174 ok_X5_isStopped (q_isStopped (a := true) (b := true) (c := false) hM hA) hM.ob rfl (by omega) (Nat.le_of_ble_eq_true rfl) (Nat.zero_le _) (Nat.zero_le _) (fun E h' n' _ z => rp_x z) (rp_k (fun p62 p62ρ p62τ p62M p62A p62F => ?_))
        obtain ⟨Gp62, hGp62, eGp62⟩ := p62M.out
        show SW _ _ _ _ _ _ _ (.int 1 :: _) _ _ _
        refine sw_if_eq (pc' := 68) (tgt := 70) rfl dX5_copies_65 (by decide +kernel) (fun c65 => ?_) (fun c65 => ?_)
        · exact absurd c65 (by decide +kernel)
        · refine sw_iconst (pc' := 69) (v := 0) rfl dX5_copies_68 (by decide +kernel) ?_
          refine sw_ret (v := some _) ⟨dX5_copies_69, _, rfl, rfl⟩ ?_
          rw [opCopies, onRw_x qk1]
          exact pm_x tc_1 p62M p62A p62F (Nat.le_refl _)
      · exact absurd c31 (by decide +kernel)
    · refine sw_iload_n (pc' := 13) rfl dX5_copies_12 rfl ?_
      refine sw_iconst (pc' := 14) (v := 0) rfl dX5_copies_13 (by decide +kernel) ?_
      refine sw_bipush (pc' := 16) (v := 12) rfl dX5_copies_14 (by decide +kernel) ?_
      refine sw_S (M' := MX5_isIn) (d' := d - 1) (bc' := 0) (bs' := 0) (as := [_, _, _]) dX5_copies_16 w_1168 ok_X5_isIn (q_isIn) (by omega) (Nat.le_of_ble_eq_true rfl) (Nat.zero_le _) (Nat.zero_le _) (fun E h' n' _ z => det_x z) (det_k ?_)
      refine sw_if_ne (pc' := 22) (tgt := 26) rfl dX5_copies_19 (by decide +kernel) (fun c19 => ?_) (fun c19 => ?_)
      · refine sw_iconst (pc' := 27) (v := 0) rfl dX5_copies_26 (by decide +kernel) ?_
        refine sw_iload_n (pc' := 28) rfl dX5_copies_27 rfl ?_
        refine sw_S (M' := MX5_isNoRow) (d' := d - 1) (bc' := 0) (bs' := 0) (as := [_]) dX5_copies_28 w_1267 ok_X5_isNoRow (q_isNoRow (by omega)) (by omega) (Nat.le_of_ble_eq_true rfl) (Nat.zero_le _) (Nat.zero_le _) (fun E h' n' _ z => det_x z) (det_k ?_)
        rw [show nrB a = true from nrB_x qk1]
        show SW _ _ _ _ _ _ _ (.int 1 :: _) _ _ _
        refine sw_if_ne (pc' := 34) (tgt := 61) rfl dX5_copies_31 (by decide +kernel) (fun c31 => ?_) (fun c31 => ?_)
        · refine sw_iconst (pc' := 62) (v := 0) rfl dX5_copies_61 (by decide +kernel) ?_
          refine sw_V (M' := MX5_isStopped) (d' := d - 1) (bc' := 0) (bs' := 0) (ci := 6) (as := [_, _, _]) dX5_copies_62 w_1174 ok_X5_isStopped (q_isStopped (a := true) (b := false) (c := false) hM hA) hM.ob rfl (by omega) (Nat.le_of_ble_eq_true rfl) (Nat.zero_le _) (Nat.zero_le _) (fun E h' n' _ z => rp_x z) (rp_k (fun p62 p62ρ p62τ p62M p62A p62F => ?_))
          obtain ⟨Gp62, hGp62, eGp62⟩ := p62M.out
          show SW _ _ _ _ _ _ _ (.int 1 :: _) _ _ _
          refine sw_if_eq (pc' := 68) (tgt := 70) rfl dX5_copies_65 (by decide +kernel) (fun c65 => ?_) (fun c65 => ?_)
          · exact absurd c65 (by decide +kernel)
          · refine sw_iconst (pc' := 69) (v := 0) rfl dX5_copies_68 (by decide +kernel) ?_
            refine sw_ret (v := some _) ⟨dX5_copies_69, _, rfl, rfl⟩ ?_
            rw [opCopies, onRw_x qk1]
            exact pm_x tc_1 p62M p62A p62F (Nat.le_refl _)
        · exact absurd c31 (by decide +kernel)
      · refine sw_iconst (pc' := 23) (v := 1) rfl dX5_copies_22 (by decide +kernel) ?_
        refine sw_goto (tgt := 27) dX5_copies_23 (by decide +kernel) ?_
        refine sw_iload_n (pc' := 28) rfl dX5_copies_27 rfl ?_
        refine sw_S (M' := MX5_isNoRow) (d' := d - 1) (bc' := 0) (bs' := 0) (as := [_]) dX5_copies_28 w_1267 ok_X5_isNoRow (q_isNoRow (by omega)) (by omega) (Nat.le_of_ble_eq_true rfl) (Nat.zero_le _) (Nat.zero_le _) (fun E h' n' _ z => det_x z) (det_k ?_)
        rw [show nrB a = true from nrB_x qk1]
        show SW _ _ _ _ _ _ _ (.int 1 :: _) _ _ _
        refine sw_if_ne (pc' := 34) (tgt := 61) rfl dX5_copies_31 (by decide +kernel) (fun c31 => ?_) (fun c31 => ?_)
        · refine sw_iconst (pc' := 62) (v := 0) rfl dX5_copies_61 (by decide +kernel) ?_
          refine sw_V (M' := MX5_isStopped) (d' := d - 1) (bc' := 0) (bs' := 0) (ci := 6) (as := [_, _, _]) dX5_copies_62 w_1174 ok_X5_isStopped (q_isStopped (a := true) (b := true) (c := false) hM hA) hM.ob rfl (by omega) (Nat.le_of_ble_eq_true rfl) (Nat.zero_le _) (Nat.zero_le _) (fun E h' n' _ z => rp_x z) (rp_k (fun p62 p62ρ p62τ p62M p62A p62F => ?_))
          obtain ⟨Gp62, hGp62, eGp62⟩ := p62M.out
          show SW _ _ _ _ _ _ _ (.int 1 :: _) _ _ _
          refine sw_if_eq (pc' := 68) (tgt := 70) rfl dX5_copies_65 (by decide +kernel) (fun c65 => ?_) (fun c65 => ?_)
          · exact absurd c65 (by decide +kernel)
          · refine sw_iconst (pc' := 69) (v := 0) rfl dX5_copies_68 (by decide +kernel) ?_
            refine sw_ret (v := some _) ⟨dX5_copies_69, _, rfl, rfl⟩ ?_
            rw [opCopies, onRw_x qk1]
            exact pm_x tc_1 p62M p62A p62F (Nat.le_refl _)
        · exact absurd c31 (by decide +kernel)
  rcases Classical.em (kP (kdO k) = false) with qk | qk
  · refine sw_aload_n (pc' := 1) rfl dX5_copies_0 rfl ?_
    refine sw_iload_n (pc' := 2) rfl dX5_copies_1 rfl ?_
    refine sw_S (M' := MX5_isNoRow) (d' := d - 1) (bc' := 0) (bs' := 0) (as := [_]) dX5_copies_2 w_1267 ok_X5_isNoRow (q_isNoRow (by omega)) (by omega) (Nat.le_of_ble_eq_true rfl) (Nat.zero_le _) (Nat.zero_le _) (fun E h' n' _ z => det_x z) (det_k ?_)
    rw [show nrB (nI k) = true from nrB_y hk qk]
    show SW _ _ _ _ _ _ _ (.int 1 :: _) _ _ _
    refine sw_iload_n (pc' := 6) rfl dX5_copies_5 rfl ?_
    refine sw_S (M' := MX5_isNoThing) (d' := d - 1) (bc' := 0) (bs' := 0) (as := [_]) dX5_copies_6 w_1171 ok_X5_isNoThing (q_isNoThing (by omega)) (by omega) (Nat.le_of_ble_eq_true rfl) (Nat.zero_le _) (Nat.zero_le _) (fun E h' n' _ z => det_x z) (det_k ?_)
    refine sw_if_ne (pc' := 12) (tgt := 22) rfl dX5_copies_9 (by decide +kernel) (fun c9 => ?_) (fun c9 => ?_)
    · refine sw_iconst (pc' := 23) (v := 1) rfl dX5_copies_22 (by decide +kernel) ?_
      refine sw_goto (tgt := 27) dX5_copies_23 (by decide +kernel) ?_
      refine sw_iload_n (pc' := 28) rfl dX5_copies_27 rfl ?_
      refine sw_S (M' := MX5_isNoRow) (d' := d - 1) (bc' := 0) (bs' := 0) (as := [_]) dX5_copies_28 w_1267 ok_X5_isNoRow (q_isNoRow (by omega)) (by omega) (Nat.le_of_ble_eq_true rfl) (Nat.zero_le _) (Nat.zero_le _) (fun E h' n' _ z => det_x z) (det_k ?_)
      rw [show nrB (nI k) = true from nrB_y hk qk]
      show SW _ _ _ _ _ _ _ (.int 1 :: _) _ _ _
      refine sw_if_ne (pc' := 34) (tgt := 61) rfl dX5_copies_31 (by decide +kernel) (fun c31 => ?_) (fun c31 => ?_)
      · refine sw_iconst (pc' := 62) (v := 0) rfl dX5_copies_61 (by decide +kernel) ?_
        refine sw_V (M' := MX5_isStopped) (d' := d - 1) (bc' := 0) (bs' := 0) (ci := 6) (as := [_, _, _]) dX5_copies_62 w_1174 ok_X5_isStopped (q_isStopped (a := true) (b := true) (c := false) hM hA) hM.ob rfl (by omega) (Nat.le_of_ble_eq_true rfl) (Nat.zero_le _) (Nat.zero_le _) (fun E h' n' _ z => rp_x z) (rp_k (fun p62 p62ρ p62τ p62M p62A p62F => ?_))
        obtain ⟨Gp62, hGp62, eGp62⟩ := p62M.out
        show SW _ _ _ _ _ _ _ (.int 1 :: _) _ _ _
        refine sw_if_eq (pc' := 68) (tgt := 70) rfl dX5_copies_65 (by decide +kernel) (fun c65 => ?_) (fun c65 => ?_)
        · exact absurd c65 (by decide +kernel)
        · refine sw_iconst (pc' := 69) (v := 0) rfl dX5_copies_68 (by decide +kernel) ?_
          refine sw_ret (v := some _) ⟨dX5_copies_69, _, rfl, rfl⟩ ?_
          rw [opCopies, onRw_y hk qk]
          exact pm_x tc_1 p62M p62A p62F (Nat.le_refl _)
      · exact absurd c31 (by decide +kernel)
    · refine sw_iload_n (pc' := 13) rfl dX5_copies_12 rfl ?_
      refine sw_iconst (pc' := 14) (v := 0) rfl dX5_copies_13 (by decide +kernel) ?_
      refine sw_bipush (pc' := 16) (v := 12) rfl dX5_copies_14 (by decide +kernel) ?_
      refine sw_S (M' := MX5_isIn) (d' := d - 1) (bc' := 0) (bs' := 0) (as := [_, _, _]) dX5_copies_16 w_1168 ok_X5_isIn (q_isIn) (by omega) (Nat.le_of_ble_eq_true rfl) (Nat.zero_le _) (Nat.zero_le _) (fun E h' n' _ z => det_x z) (det_k ?_)
      refine sw_if_ne (pc' := 22) (tgt := 26) rfl dX5_copies_19 (by decide +kernel) (fun c19 => ?_) (fun c19 => ?_)
      · refine sw_iconst (pc' := 27) (v := 0) rfl dX5_copies_26 (by decide +kernel) ?_
        refine sw_iload_n (pc' := 28) rfl dX5_copies_27 rfl ?_
        refine sw_S (M' := MX5_isNoRow) (d' := d - 1) (bc' := 0) (bs' := 0) (as := [_]) dX5_copies_28 w_1267 ok_X5_isNoRow (q_isNoRow (by omega)) (by omega) (Nat.le_of_ble_eq_true rfl) (Nat.zero_le _) (Nat.zero_le _) (fun E h' n' _ z => det_x z) (det_k ?_)
        rw [show nrB (nI k) = true from nrB_y hk qk]
        show SW _ _ _ _ _ _ _ (.int 1 :: _) _ _ _
        refine sw_if_ne (pc' := 34) (tgt := 61) rfl dX5_copies_31 (by decide +kernel) (fun c31 => ?_) (fun c31 => ?_)
        · refine sw_iconst (pc' := 62) (v := 0) rfl dX5_copies_61 (by decide +kernel) ?_
          refine sw_V (M' := MX5_isStopped) (d' := d - 1) (bc' := 0) (bs' := 0) (ci := 6) (as := [_, _, _]) dX5_copies_62 w_1174 ok_X5_isStopped (q_isStopped (a := true) (b := false) (c := false) hM hA) hM.ob rfl (by omega) (Nat.le_of_ble_eq_true rfl) (Nat.zero_le _) (Nat.zero_le _) (fun E h' n' _ z => rp_x z) (rp_k (fun p62 p62ρ p62τ p62M p62A p62F => ?_))
          obtain ⟨Gp62, hGp62, eGp62⟩ := p62M.out
          show SW _ _ _ _ _ _ _ (.int 1 :: _) _ _ _
          refine sw_if_eq (pc' := 68) (tgt := 70) rfl dX5_copies_65 (by decide +kernel) (fun c65 => ?_) (fun c65 => ?_)
          · exact absurd c65 (by decide +kernel)
          · refine sw_iconst (pc' := 69) (v := 0) rfl dX5_copies_68 (by decide +kernel) ?_
            refine sw_ret (v := some _) ⟨dX5_copies_69, _, rfl, rfl⟩ ?_
            rw [opCopies, onRw_y hk qk]
            exact pm_x tc_1 p62M p62A p62F (Nat.le_refl _)
        · exact absurd c31 (by decide +kernel)
      · refine sw_iconst (pc' := 23) (v := 1) rfl dX5_copies_22 (by decide +kernel) ?_
        refine sw_goto (tgt := 27) dX5_copies_23 (by decide +kernel) ?_
        refine sw_iload_n (pc' := 28) rfl dX5_copies_27 rfl ?_
        refine sw_S (M' := MX5_isNoRow) (d' := d - 1) (bc' := 0) (bs' := 0) (as := [_]) dX5_copies_28 w_1267 ok_X5_isNoRow (q_isNoRow (by omega)) (by omega) (Nat.le_of_ble_eq_true rfl) (Nat.zero_le _) (Nat.zero_le _) (fun E h' n' _ z => det_x z) (det_k ?_)
        rw [show nrB (nI k) = true from nrB_y hk qk]
        show SW _ _ _ _ _ _ _ (.int 1 :: _) _ _ _
        refine sw_if_ne (pc' := 34) (tgt := 61) rfl dX5_copies_31 (by decide +kernel) (fun c31 => ?_) (fun c31 => ?_)
        · refine sw_iconst (pc' := 62) (v := 0) rfl dX5_copies_61 (by decide +kernel) ?_
          refine sw_V (M' := MX5_isStopped) (d' := d - 1) (bc' := 0) (bs' := 0) (ci := 6) (as := [_, _, _]) dX5_copies_62 w_1174 ok_X5_isStopped (q_isStopped (a := true) (b := true) (c := false) hM hA) hM.ob rfl (by omega) (Nat.le_of_ble_eq_true rfl) (Nat.zero_le _) (Nat.zero_le _) (fun E h' n' _ z => rp_x z) (rp_k (fun p62 p62ρ p62τ p62M p62A p62F => ?_))
          obtain ⟨Gp62, hGp62, eGp62⟩ := p62M.out
          show SW _ _ _ _ _ _ _ (.int 1 :: _) _ _ _
          refine sw_if_eq (pc' := 68) (tgt := 70) rfl dX5_copies_65 (by decide +kernel) (fun c65 => ?_) (fun c65 => ?_)
          · exact absurd c65 (by decide +kernel)
          · refine sw_iconst (pc' := 69) (v := 0) rfl dX5_copies_68 (by decide +kernel) ?_
            refine sw_ret (v := some _) ⟨dX5_copies_69, _, rfl, rfl⟩ ?_
            rw [opCopies, onRw_y hk qk]
            exact pm_x tc_1 p62M p62A p62F (Nat.le_refl _)
        · exact absurd c31 (by decide +kernel)
  have hck := hI.1 k hk
  rcases Classical.em (x < 0 ∨ 100 < x) with qx | qx
  · refine sw_aload_n (pc' := 1) rfl dX5_copies_0 rfl ?_
    refine sw_iload_n (pc' := 2) rfl dX5_copies_1 rfl ?_
    refine sw_S (M' := MX5_isNoRow) (d' := d - 1) (bc' := 0) (bs' := 0) (as := [_]) dX5_copies_2 w_1267 ok_X5_isNoRow (q_isNoRow (by omega)) (by omega) (Nat.le_of_ble_eq_true rfl) (Nat.zero_le _) (Nat.zero_le _) (fun E h' n' _ z => det_x z) (det_k ?_)
    rw [show nrB (nI k) = false from nrB_k hk qk]
    show SW _ _ _ _ _ _ _ (.int 0 :: _) _ _ _
    refine sw_iload_n (pc' := 6) rfl dX5_copies_5 rfl ?_
    refine sw_S (M' := MX5_isNoThing) (d' := d - 1) (bc' := 0) (bs' := 0) (as := [_]) dX5_copies_6 w_1171 ok_X5_isNoThing (q_isNoThing (by omega)) (by omega) (Nat.le_of_ble_eq_true rfl) (Nat.zero_le _) (Nat.zero_le _) (fun E h' n' _ z => det_x z) (det_k ?_)
    rw [show inB x 0 100 = false from inB_x qx]
    show SW _ _ _ _ _ _ _ (.int 1 :: _) _ _ _
    refine sw_if_ne (pc' := 12) (tgt := 22) rfl dX5_copies_9 (by decide +kernel) (fun c9 => ?_) (fun c9 => ?_)
    · refine sw_iconst (pc' := 23) (v := 1) rfl dX5_copies_22 (by decide +kernel) ?_
      refine sw_goto (tgt := 27) dX5_copies_23 (by decide +kernel) ?_
      refine sw_iload_n (pc' := 28) rfl dX5_copies_27 rfl ?_
      refine sw_S (M' := MX5_isNoRow) (d' := d - 1) (bc' := 0) (bs' := 0) (as := [_]) dX5_copies_28 w_1267 ok_X5_isNoRow (q_isNoRow (by omega)) (by omega) (Nat.le_of_ble_eq_true rfl) (Nat.zero_le _) (Nat.zero_le _) (fun E h' n' _ z => det_x z) (det_k ?_)
      rw [show nrB (nI k) = false from nrB_k hk qk]
      show SW _ _ _ _ _ _ _ (.int 0 :: _) _ _ _
      refine sw_if_ne (pc' := 34) (tgt := 61) rfl dX5_copies_31 (by decide +kernel) (fun c31 => ?_) (fun c31 => ?_)
      · exact absurd c31 (by decide +kernel)
      · refine sw_iload_n (pc' := 35) rfl dX5_copies_34 rfl ?_
        refine sw_iconst (pc' := 36) (v := 0) rfl dX5_copies_35 (by decide +kernel) ?_
        refine sw_bipush (pc' := 38) (v := 12) rfl dX5_copies_36 (by decide +kernel) ?_
        refine sw_S (M' := MX5_isIn) (d' := d - 1) (bc' := 0) (bs' := 0) (as := [_, _, _]) dX5_copies_38 w_1168 ok_X5_isIn (q_isIn) (by omega) (Nat.le_of_ble_eq_true rfl) (Nat.zero_le _) (Nat.zero_le _) (fun E h' n' _ z => det_x z) (det_k ?_)
        refine sw_if_eq (pc' := 44) (tgt := 61) rfl dX5_copies_41 (by decide +kernel) (fun c41 => ?_) (fun c41 => ?_)
        · refine sw_iconst (pc' := 62) (v := 0) rfl dX5_copies_61 (by decide +kernel) ?_
          refine sw_V (M' := MX5_isStopped) (d' := d - 1) (bc' := 0) (bs' := 0) (ci := 6) (as := [_, _, _]) dX5_copies_62 w_1174 ok_X5_isStopped (q_isStopped (a := false) (b := true) (c := false) hM hA) hM.ob rfl (by omega) (Nat.le_of_ble_eq_true rfl) (Nat.zero_le _) (Nat.zero_le _) (fun E h' n' _ z => rp_x z) (rp_k (fun p62 p62ρ p62τ p62M p62A p62F => ?_))
          obtain ⟨Gp62, hGp62, eGp62⟩ := p62M.out
          show SW _ _ _ _ _ _ _ (.int 1 :: _) _ _ _
          refine sw_if_eq (pc' := 68) (tgt := 70) rfl dX5_copies_65 (by decide +kernel) (fun c65 => ?_) (fun c65 => ?_)
          · exact absurd c65 (by decide +kernel)
          · refine sw_iconst (pc' := 69) (v := 0) rfl dX5_copies_68 (by decide +kernel) ?_
            refine sw_ret (v := some _) ⟨dX5_copies_69, _, rfl, rfl⟩ ?_
            rw [opCopies, onRw_k hk qk, if_pos qx]
            exact pm_x (tc_2 sAI) p62M p62A p62F (Nat.le_refl _)
        · refine sw_aload_n (pc' := 45) rfl dX5_copies_44 rfl ?_
          refine sw_getf (ci := 6) (k := 4) (pc' := 48) rfl dX5_copies_45 (by decide +kernel) w_1117 hM.ob rfl ?_
          refine sw_iload_n (pc' := 49) rfl dX5_copies_48 rfl ?_
          refine sw_iald (j := k) (pc' := 50) rfl dX5_copies_49 hM.sz rfl (by omega) (by decide +kernel) ?_
          refine sw_iload_n (pc' := 51) rfl dX5_copies_50 rfl ?_
          refine sw_iadd (pc' := 52) rfl dX5_copies_51 ?_
          refine sw_bipush (pc' := 54) (v := 12) rfl dX5_copies_52 (by decide +kernel) ?_
          refine sw_icmp_le (pc' := 57) (tgt := 61) rfl dX5_copies_54 (by decide +kernel) (fun c54 => ?_) (fun c54 => ?_)
          · refine sw_iconst (pc' := 62) (v := 0) rfl dX5_copies_61 (by decide +kernel) ?_
            refine sw_V (M' := MX5_isStopped) (d' := d - 1) (bc' := 0) (bs' := 0) (ci := 6) (as := [_, _, _]) dX5_copies_62 w_1174 ok_X5_isStopped (q_isStopped (a := false) (b := true) (c := false) hM hA) hM.ob rfl (by omega) (Nat.le_of_ble_eq_true rfl) (Nat.zero_le _) (Nat.zero_le _) (fun E h' n' _ z => rp_x z) (rp_k (fun p62 p62ρ p62τ p62M p62A p62F => ?_))
            obtain ⟨Gp62, hGp62, eGp62⟩ := p62M.out
            show SW _ _ _ _ _ _ _ (.int 1 :: _) _ _ _
            refine sw_if_eq (pc' := 68) (tgt := 70) rfl dX5_copies_65 (by decide +kernel) (fun c65 => ?_) (fun c65 => ?_)
            · exact absurd c65 (by decide +kernel)
            · refine sw_iconst (pc' := 69) (v := 0) rfl dX5_copies_68 (by decide +kernel) ?_
              refine sw_ret (v := some _) ⟨dX5_copies_69, _, rfl, rfl⟩ ?_
              rw [opCopies, onRw_k hk qk, if_pos qx]
              exact pm_x (tc_2 sAI) p62M p62A p62F (Nat.le_refl _)
          · refine sw_iconst (pc' := 58) (v := 1) rfl dX5_copies_57 (by decide +kernel) ?_
            refine sw_goto (tgt := 62) dX5_copies_58 (by decide +kernel) ?_
            refine sw_V (M' := MX5_isStopped) (d' := d - 1) (bc' := 0) (bs' := 0) (ci := 6) (as := [_, _, _]) dX5_copies_62 w_1174 ok_X5_isStopped (q_isStopped (a := false) (b := true) (c := true) hM hA) hM.ob rfl (by omega) (Nat.le_of_ble_eq_true rfl) (Nat.zero_le _) (Nat.zero_le _) (fun E h' n' _ z => rp_x z) (rp_k (fun p62 p62ρ p62τ p62M p62A p62F => ?_))
            obtain ⟨Gp62, hGp62, eGp62⟩ := p62M.out
            show SW _ _ _ _ _ _ _ (.int 1 :: _) _ _ _
            refine sw_if_eq (pc' := 68) (tgt := 70) rfl dX5_copies_65 (by decide +kernel) (fun c65 => ?_) (fun c65 => ?_)
            · exact absurd c65 (by decide +kernel)
            · refine sw_iconst (pc' := 69) (v := 0) rfl dX5_copies_68 (by decide +kernel) ?_
              refine sw_ret (v := some _) ⟨dX5_copies_69, _, rfl, rfl⟩ ?_
              rw [opCopies, onRw_k hk qk, if_pos qx]
              exact pm_x (tc_2 sAI) p62M p62A p62F (Nat.le_refl _)
    · exact absurd c9 (by decide +kernel)
  rcases idxR 12 (by decide +kernel) m with qMm | ⟨Mm, hMm, rfl⟩
  · refine sw_aload_n (pc' := 1) rfl dX5_copies_0 rfl ?_
    refine sw_iload_n (pc' := 2) rfl dX5_copies_1 rfl ?_
    refine sw_S (M' := MX5_isNoRow) (d' := d - 1) (bc' := 0) (bs' := 0) (as := [_]) dX5_copies_2 w_1267 ok_X5_isNoRow (q_isNoRow (by omega)) (by omega) (Nat.le_of_ble_eq_true rfl) (Nat.zero_le _) (Nat.zero_le _) (fun E h' n' _ z => det_x z) (det_k ?_)
    rw [show nrB (nI k) = false from nrB_k hk qk]
    show SW _ _ _ _ _ _ _ (.int 0 :: _) _ _ _
    refine sw_iload_n (pc' := 6) rfl dX5_copies_5 rfl ?_
    refine sw_S (M' := MX5_isNoThing) (d' := d - 1) (bc' := 0) (bs' := 0) (as := [_]) dX5_copies_6 w_1171 ok_X5_isNoThing (q_isNoThing (by omega)) (by omega) (Nat.le_of_ble_eq_true rfl) (Nat.zero_le _) (Nat.zero_le _) (fun E h' n' _ z => det_x z) (det_k ?_)
    rw [show inB x 0 100 = true from inB_n qx]
    show SW _ _ _ _ _ _ _ (.int 0 :: _) _ _ _
    refine sw_if_ne (pc' := 12) (tgt := 22) rfl dX5_copies_9 (by decide +kernel) (fun c9 => ?_) (fun c9 => ?_)
    · exact absurd c9 (by decide +kernel)
    · refine sw_iload_n (pc' := 13) rfl dX5_copies_12 rfl ?_
      refine sw_iconst (pc' := 14) (v := 0) rfl dX5_copies_13 (by decide +kernel) ?_
      refine sw_bipush (pc' := 16) (v := 12) rfl dX5_copies_14 (by decide +kernel) ?_
      refine sw_S (M' := MX5_isIn) (d' := d - 1) (bc' := 0) (bs' := 0) (as := [_, _, _]) dX5_copies_16 w_1168 ok_X5_isIn (q_isIn) (by omega) (Nat.le_of_ble_eq_true rfl) (Nat.zero_le _) (Nat.zero_le _) (fun E h' n' _ z => det_x z) (det_k ?_)
      rw [show inB m 0 12 = false from inB_x qMm]
      show SW _ _ _ _ _ _ _ (.int 0 :: _) _ _ _
      refine sw_if_ne (pc' := 22) (tgt := 26) rfl dX5_copies_19 (by decide +kernel) (fun c19 => ?_) (fun c19 => ?_)
      · exact absurd c19 (by decide +kernel)
      · refine sw_iconst (pc' := 23) (v := 1) rfl dX5_copies_22 (by decide +kernel) ?_
        refine sw_goto (tgt := 27) dX5_copies_23 (by decide +kernel) ?_
        refine sw_iload_n (pc' := 28) rfl dX5_copies_27 rfl ?_
        refine sw_S (M' := MX5_isNoRow) (d' := d - 1) (bc' := 0) (bs' := 0) (as := [_]) dX5_copies_28 w_1267 ok_X5_isNoRow (q_isNoRow (by omega)) (by omega) (Nat.le_of_ble_eq_true rfl) (Nat.zero_le _) (Nat.zero_le _) (fun E h' n' _ z => det_x z) (det_k ?_)
        rw [show nrB (nI k) = false from nrB_k hk qk]
        show SW _ _ _ _ _ _ _ (.int 0 :: _) _ _ _
        refine sw_if_ne (pc' := 34) (tgt := 61) rfl dX5_copies_31 (by decide +kernel) (fun c31 => ?_) (fun c31 => ?_)
        · exact absurd c31 (by decide +kernel)
        · refine sw_iload_n (pc' := 35) rfl dX5_copies_34 rfl ?_
          refine sw_iconst (pc' := 36) (v := 0) rfl dX5_copies_35 (by decide +kernel) ?_
          refine sw_bipush (pc' := 38) (v := 12) rfl dX5_copies_36 (by decide +kernel) ?_
          refine sw_S (M' := MX5_isIn) (d' := d - 1) (bc' := 0) (bs' := 0) (as := [_, _, _]) dX5_copies_38 w_1168 ok_X5_isIn (q_isIn) (by omega) (Nat.le_of_ble_eq_true rfl) (Nat.zero_le _) (Nat.zero_le _) (fun E h' n' _ z => det_x z) (det_k ?_)
          rw [show inB m 0 12 = false from inB_x qMm]
          show SW _ _ _ _ _ _ _ (.int 0 :: _) _ _ _
          refine sw_if_eq (pc' := 44) (tgt := 61) rfl dX5_copies_41 (by decide +kernel) (fun c41 => ?_) (fun c41 => ?_)
          · refine sw_iconst (pc' := 62) (v := 0) rfl dX5_copies_61 (by decide +kernel) ?_
            refine sw_V (M' := MX5_isStopped) (d' := d - 1) (bc' := 0) (bs' := 0) (ci := 6) (as := [_, _, _]) dX5_copies_62 w_1174 ok_X5_isStopped (q_isStopped (a := false) (b := true) (c := false) hM hA) hM.ob rfl (by omega) (Nat.le_of_ble_eq_true rfl) (Nat.zero_le _) (Nat.zero_le _) (fun E h' n' _ z => rp_x z) (rp_k (fun p62 p62ρ p62τ p62M p62A p62F => ?_))
            obtain ⟨Gp62, hGp62, eGp62⟩ := p62M.out
            show SW _ _ _ _ _ _ _ (.int 1 :: _) _ _ _
            refine sw_if_eq (pc' := 68) (tgt := 70) rfl dX5_copies_65 (by decide +kernel) (fun c65 => ?_) (fun c65 => ?_)
            · exact absurd c65 (by decide +kernel)
            · refine sw_iconst (pc' := 69) (v := 0) rfl dX5_copies_68 (by decide +kernel) ?_
              refine sw_ret (v := some _) ⟨dX5_copies_69, _, rfl, rfl⟩ ?_
              rw [opCopies, onRw_k hk qk, if_neg qx, if_pos (show m < 0 ∨ 12 < m from qMm)]
              exact pm_x (tc_2 sAI) p62M p62A p62F (Nat.le_refl _)
          · exact absurd c41 (by decide +kernel)
  rcases Classical.em (12 < nI (σ.2.1 k) + nI Mm) with qr | qr
  · have hroom : 12 < σ.2.1 k + Mm := (roomS hck hMm).mp qr
    refine sw_aload_n (pc' := 1) rfl dX5_copies_0 rfl ?_
    refine sw_iload_n (pc' := 2) rfl dX5_copies_1 rfl ?_
    refine sw_S (M' := MX5_isNoRow) (d' := d - 1) (bc' := 0) (bs' := 0) (as := [_]) dX5_copies_2 w_1267 ok_X5_isNoRow (q_isNoRow (by omega)) (by omega) (Nat.le_of_ble_eq_true rfl) (Nat.zero_le _) (Nat.zero_le _) (fun E h' n' _ z => det_x z) (det_k ?_)
    rw [show nrB (nI k) = false from nrB_k hk qk]
    show SW _ _ _ _ _ _ _ (.int 0 :: _) _ _ _
    refine sw_iload_n (pc' := 6) rfl dX5_copies_5 rfl ?_
    refine sw_S (M' := MX5_isNoThing) (d' := d - 1) (bc' := 0) (bs' := 0) (as := [_]) dX5_copies_6 w_1171 ok_X5_isNoThing (q_isNoThing (by omega)) (by omega) (Nat.le_of_ble_eq_true rfl) (Nat.zero_le _) (Nat.zero_le _) (fun E h' n' _ z => det_x z) (det_k ?_)
    rw [show inB x 0 100 = true from inB_n qx]
    show SW _ _ _ _ _ _ _ (.int 0 :: _) _ _ _
    refine sw_if_ne (pc' := 12) (tgt := 22) rfl dX5_copies_9 (by decide +kernel) (fun c9 => ?_) (fun c9 => ?_)
    · exact absurd c9 (by decide +kernel)
    · refine sw_iload_n (pc' := 13) rfl dX5_copies_12 rfl ?_
      refine sw_iconst (pc' := 14) (v := 0) rfl dX5_copies_13 (by decide +kernel) ?_
      refine sw_bipush (pc' := 16) (v := 12) rfl dX5_copies_14 (by decide +kernel) ?_
      refine sw_S (M' := MX5_isIn) (d' := d - 1) (bc' := 0) (bs' := 0) (as := [_, _, _]) dX5_copies_16 w_1168 ok_X5_isIn (q_isIn) (by omega) (Nat.le_of_ble_eq_true rfl) (Nat.zero_le _) (Nat.zero_le _) (fun E h' n' _ z => det_x z) (det_k ?_)
      rw [show inB (nI Mm) 0 12 = true from inB_k (N := 12) hMm (by decide +kernel)]
      show SW _ _ _ _ _ _ _ (.int 1 :: _) _ _ _
      refine sw_if_ne (pc' := 22) (tgt := 26) rfl dX5_copies_19 (by decide +kernel) (fun c19 => ?_) (fun c19 => ?_)
      · refine sw_iconst (pc' := 27) (v := 0) rfl dX5_copies_26 (by decide +kernel) ?_
        refine sw_iload_n (pc' := 28) rfl dX5_copies_27 rfl ?_
        refine sw_S (M' := MX5_isNoRow) (d' := d - 1) (bc' := 0) (bs' := 0) (as := [_]) dX5_copies_28 w_1267 ok_X5_isNoRow (q_isNoRow (by omega)) (by omega) (Nat.le_of_ble_eq_true rfl) (Nat.zero_le _) (Nat.zero_le _) (fun E h' n' _ z => det_x z) (det_k ?_)
        rw [show nrB (nI k) = false from nrB_k hk qk]
        show SW _ _ _ _ _ _ _ (.int 0 :: _) _ _ _
        refine sw_if_ne (pc' := 34) (tgt := 61) rfl dX5_copies_31 (by decide +kernel) (fun c31 => ?_) (fun c31 => ?_)
        · exact absurd c31 (by decide +kernel)
        · refine sw_iload_n (pc' := 35) rfl dX5_copies_34 rfl ?_
          refine sw_iconst (pc' := 36) (v := 0) rfl dX5_copies_35 (by decide +kernel) ?_
          refine sw_bipush (pc' := 38) (v := 12) rfl dX5_copies_36 (by decide +kernel) ?_
          refine sw_S (M' := MX5_isIn) (d' := d - 1) (bc' := 0) (bs' := 0) (as := [_, _, _]) dX5_copies_38 w_1168 ok_X5_isIn (q_isIn) (by omega) (Nat.le_of_ble_eq_true rfl) (Nat.zero_le _) (Nat.zero_le _) (fun E h' n' _ z => det_x z) (det_k ?_)
          rw [show inB (nI Mm) 0 12 = true from inB_k (N := 12) hMm (by decide +kernel)]
          show SW _ _ _ _ _ _ _ (.int 1 :: _) _ _ _
          refine sw_if_eq (pc' := 44) (tgt := 61) rfl dX5_copies_41 (by decide +kernel) (fun c41 => ?_) (fun c41 => ?_)
          · exact absurd c41 (by decide +kernel)
          · refine sw_aload_n (pc' := 45) rfl dX5_copies_44 rfl ?_
            refine sw_getf (ci := 6) (k := 4) (pc' := 48) rfl dX5_copies_45 (by decide +kernel) w_1117 hM.ob rfl ?_
            refine sw_iload_n (pc' := 49) rfl dX5_copies_48 rfl ?_
            refine sw_iald (j := k) (pc' := 50) rfl dX5_copies_49 hM.sz rfl (by omega) (by decide +kernel) ?_
            refine sw_iload_n (pc' := 51) rfl dX5_copies_50 rfl ?_
            refine sw_iadd (pc' := 52) rfl dX5_copies_51 ?_
            rw [show (nI (σ.2.1 k)) + (nI Mm) = nI (σ.2.1 k + Mm) from nI_add _ _]
            refine sw_bipush (pc' := 54) (v := 12) rfl dX5_copies_52 (by decide +kernel) ?_
            refine sw_icmp_le (pc' := 57) (tgt := 61) rfl dX5_copies_54 (by decide +kernel) (fun c54 => ?_) (fun c54 => ?_)
            · exact absurd ((le12 (by omega)).mp c54) (by omega)
            · refine sw_iconst (pc' := 58) (v := 1) rfl dX5_copies_57 (by decide +kernel) ?_
              refine sw_goto (tgt := 62) dX5_copies_58 (by decide +kernel) ?_
              refine sw_V (M' := MX5_isStopped) (d' := d - 1) (bc' := 0) (bs' := 0) (ci := 6) (as := [_, _, _]) dX5_copies_62 w_1174 ok_X5_isStopped (q_isStopped (a := false) (b := false) (c := true) hM hA) hM.ob rfl (by omega) (Nat.le_of_ble_eq_true rfl) (Nat.zero_le _) (Nat.zero_le _) (fun E h' n' _ z => rp_x z) (rp_k (fun p62 p62ρ p62τ p62M p62A p62F => ?_))
              obtain ⟨Gp62, hGp62, eGp62⟩ := p62M.out
              show SW _ _ _ _ _ _ _ (.int 1 :: _) _ _ _
              refine sw_if_eq (pc' := 68) (tgt := 70) rfl dX5_copies_65 (by decide +kernel) (fun c65 => ?_) (fun c65 => ?_)
              · exact absurd c65 (by decide +kernel)
              · refine sw_iconst (pc' := 69) (v := 0) rfl dX5_copies_68 (by decide +kernel) ?_
                refine sw_ret (v := some _) ⟨dX5_copies_69, _, rfl, rfl⟩ ?_
                rw [opCopies, onRw_k hk qk, if_neg qx, if_neg (show ¬ (nI Mm < 0 ∨ 12 < nI Mm) from nin (N := 12) (by decide +kernel) hMm), nI_clamp (n := Mm) (by omega), if_pos qr]
                exact pm_x (tc_3 sSI sSA) p62M p62A p62F (Nat.le_refl _)
      · exact absurd c19 (by decide +kernel)
  have hroom : σ.2.1 k + Mm ≤ 12 := Nat.le_of_not_lt (fun g => qr ((roomS hck hMm).mpr g))
  refine sw_aload_n (pc' := 1) rfl dX5_copies_0 rfl ?_
  refine sw_iload_n (pc' := 2) rfl dX5_copies_1 rfl ?_
  refine sw_S (M' := MX5_isNoRow) (d' := d - 1) (bc' := 0) (bs' := 0) (as := [_]) dX5_copies_2 w_1267 ok_X5_isNoRow (q_isNoRow (by omega)) (by omega) (Nat.le_of_ble_eq_true rfl) (Nat.zero_le _) (Nat.zero_le _) (fun E h' n' _ z => det_x z) (det_k ?_)
  rw [show nrB (nI k) = false from nrB_k hk qk]
  show SW _ _ _ _ _ _ _ (.int 0 :: _) _ _ _
  refine sw_iload_n (pc' := 6) rfl dX5_copies_5 rfl ?_
  refine sw_S (M' := MX5_isNoThing) (d' := d - 1) (bc' := 0) (bs' := 0) (as := [_]) dX5_copies_6 w_1171 ok_X5_isNoThing (q_isNoThing (by omega)) (by omega) (Nat.le_of_ble_eq_true rfl) (Nat.zero_le _) (Nat.zero_le _) (fun E h' n' _ z => det_x z) (det_k ?_)
  rw [show inB x 0 100 = true from inB_n qx]
  show SW _ _ _ _ _ _ _ (.int 0 :: _) _ _ _
  refine sw_if_ne (pc' := 12) (tgt := 22) rfl dX5_copies_9 (by decide +kernel) (fun c9 => ?_) (fun c9 => ?_)
  · exact absurd c9 (by decide +kernel)
  · refine sw_iload_n (pc' := 13) rfl dX5_copies_12 rfl ?_
    refine sw_iconst (pc' := 14) (v := 0) rfl dX5_copies_13 (by decide +kernel) ?_
    refine sw_bipush (pc' := 16) (v := 12) rfl dX5_copies_14 (by decide +kernel) ?_
    refine sw_S (M' := MX5_isIn) (d' := d - 1) (bc' := 0) (bs' := 0) (as := [_, _, _]) dX5_copies_16 w_1168 ok_X5_isIn (q_isIn) (by omega) (Nat.le_of_ble_eq_true rfl) (Nat.zero_le _) (Nat.zero_le _) (fun E h' n' _ z => det_x z) (det_k ?_)
    rw [show inB (nI Mm) 0 12 = true from inB_k (N := 12) hMm (by decide +kernel)]
    show SW _ _ _ _ _ _ _ (.int 1 :: _) _ _ _
    refine sw_if_ne (pc' := 22) (tgt := 26) rfl dX5_copies_19 (by decide +kernel) (fun c19 => ?_) (fun c19 => ?_)
    · refine sw_iconst (pc' := 27) (v := 0) rfl dX5_copies_26 (by decide +kernel) ?_
      refine sw_iload_n (pc' := 28) rfl dX5_copies_27 rfl ?_
      refine sw_S (M' := MX5_isNoRow) (d' := d - 1) (bc' := 0) (bs' := 0) (as := [_]) dX5_copies_28 w_1267 ok_X5_isNoRow (q_isNoRow (by omega)) (by omega) (Nat.le_of_ble_eq_true rfl) (Nat.zero_le _) (Nat.zero_le _) (fun E h' n' _ z => det_x z) (det_k ?_)
      rw [show nrB (nI k) = false from nrB_k hk qk]
      show SW _ _ _ _ _ _ _ (.int 0 :: _) _ _ _
      refine sw_if_ne (pc' := 34) (tgt := 61) rfl dX5_copies_31 (by decide +kernel) (fun c31 => ?_) (fun c31 => ?_)
      · exact absurd c31 (by decide +kernel)
      · refine sw_iload_n (pc' := 35) rfl dX5_copies_34 rfl ?_
        refine sw_iconst (pc' := 36) (v := 0) rfl dX5_copies_35 (by decide +kernel) ?_
        refine sw_bipush (pc' := 38) (v := 12) rfl dX5_copies_36 (by decide +kernel) ?_
        refine sw_S (M' := MX5_isIn) (d' := d - 1) (bc' := 0) (bs' := 0) (as := [_, _, _]) dX5_copies_38 w_1168 ok_X5_isIn (q_isIn) (by omega) (Nat.le_of_ble_eq_true rfl) (Nat.zero_le _) (Nat.zero_le _) (fun E h' n' _ z => det_x z) (det_k ?_)
        rw [show inB (nI Mm) 0 12 = true from inB_k (N := 12) hMm (by decide +kernel)]
        show SW _ _ _ _ _ _ _ (.int 1 :: _) _ _ _
        refine sw_if_eq (pc' := 44) (tgt := 61) rfl dX5_copies_41 (by decide +kernel) (fun c41 => ?_) (fun c41 => ?_)
        · exact absurd c41 (by decide +kernel)
        · refine sw_aload_n (pc' := 45) rfl dX5_copies_44 rfl ?_
          refine sw_getf (ci := 6) (k := 4) (pc' := 48) rfl dX5_copies_45 (by decide +kernel) w_1117 hM.ob rfl ?_
          refine sw_iload_n (pc' := 49) rfl dX5_copies_48 rfl ?_
          refine sw_iald (j := k) (pc' := 50) rfl dX5_copies_49 hM.sz rfl (by omega) (by decide +kernel) ?_
          refine sw_iload_n (pc' := 51) rfl dX5_copies_50 rfl ?_
          refine sw_iadd (pc' := 52) rfl dX5_copies_51 ?_
          rw [show (nI (σ.2.1 k)) + (nI Mm) = nI (σ.2.1 k + Mm) from nI_add _ _]
          refine sw_bipush (pc' := 54) (v := 12) rfl dX5_copies_52 (by decide +kernel) ?_
          refine sw_icmp_le (pc' := 57) (tgt := 61) rfl dX5_copies_54 (by decide +kernel) (fun c54 => ?_) (fun c54 => ?_)
          · refine sw_iconst (pc' := 62) (v := 0) rfl dX5_copies_61 (by decide +kernel) ?_
            refine sw_V (M' := MX5_isStopped) (d' := d - 1) (bc' := 0) (bs' := 0) (ci := 6) (as := [_, _, _]) dX5_copies_62 w_1174 ok_X5_isStopped (q_isStopped (a := false) (b := false) (c := false) hM hA) hM.ob rfl (by omega) (Nat.le_of_ble_eq_true rfl) (Nat.zero_le _) (Nat.zero_le _) (fun E h' n' _ z => rp_x z) (rp_k (fun p62 p62ρ p62τ p62M p62A p62F => ?_))
            obtain ⟨Gp62, hGp62, eGp62⟩ := p62M.out
            show SW _ _ _ _ _ _ _ (.int 0 :: _) _ _ _
            refine sw_if_eq (pc' := 68) (tgt := 70) rfl dX5_copies_65 (by decide +kernel) (fun c65 => ?_) (fun c65 => ?_)
            · refine sw_iconst (pc' := 71) (v := 0) rfl dX5_copies_70 (by decide +kernel) ?_
              refine sw_istore (pc' := 73) (lv' := [(4, _), (0, _), (1, _), (2, _), (3, _)]) rfl dX5_copies_71 (by decide +kernel) rfl ?_
              have g := ql_copies (d := d) (bc := bc) (bs := bs) (x := x) hk qk hMm (by omega) Mm 0 p62 _ _ σ (by omega) hroom p62M p62A p62F
              refine SW.post g (fun r' h' n' z => ?_)
              obtain ⟨rfl, rfl, ⟨_, _, qM, qA⟩, qF⟩ := z
              rw [opCopies, onRw_k hk qk, if_neg qx, if_neg (show ¬ (nI Mm < 0 ∨ 12 < nI Mm) from nin (N := 12) (by decide +kernel) hMm), nI_clamp (n := Mm) (by omega), if_neg qr]
              exact pm_k qM qA qF (Nat.le_refl _)
            · exact absurd c65 (by decide +kernel)
          · exact absurd ((le12 (by omega)).mpr (by omega)) c54
    · exact absurd c19 (by decide +kernel)
theorem ql_skip {h0 : AH} {d bc bs n k A B G : Nat} {σ : CS} {th : Int32} (hk : k < 6) (hm : (σ.2.2.2.2.1 k).1 = true) (ov : wO σ k < 11) (hc : σ.2.1 (wO σ k) ≤ 12) (eA : wAh σ k = nI A) (hGB : G ≤ B) (hB : B ≤ 12) (hGc : A + G ≤ σ.2.1 (wO σ k)) (hG : G = B ∨ A + G = σ.2.1 (wO σ k)) (hd : 1 ≤ d) (m : Nat) : ∀ (j : Nat) (h : AH) (ρ : Nat → Nat → Int32) (τ : Nat → Int32), j + m = G → MM h ρ τ (gvU σ k j) th → AG ρ τ (gvU σ k j) → FrM h0 h n → SW SR0 MX5_skip d bc bs 48 [(3, .int (nI j)), (0, .ref 135), (1, .int (nI k)), (2, .int (nI B))] [] h n (fun r' h' n' => r' = .inl (some (.int (nI G))) ∧ n' = n ∧ RMo h' (gvU σ k G) th ∧ FrM h0 h' n) := by
  induction m with
  | zero =>
    intro j h ρ τ hj hM hA hF
    obtain ⟨G0, hG0, eG0⟩ := hM.out
    have hjG : j = G := by omega
    subst hjG
    refine sw_iload_n (pc' := 49) rfl dX5_skip_48 rfl ?_
    refine sw_iload_n (pc' := 50) rfl dX5_skip_49 rfl ?_
    refine sw_icmp_ge (pc' := 53) (tgt := 73) rfl dX5_skip_50 (by decide +kernel) (fun c50 => ?_) (fun c50 => ?_)
    · refine sw_iload_n (pc' := 74) rfl dX5_skip_73 rfl ?_
      refine sw_ret (v := some _) ⟨dX5_skip_74, _, rfl, rfl⟩ ?_
      exact ⟨rfl, rfl, ⟨_, _, hM, hA⟩, hF⟩
    · refine sw_aload_n (pc' := 54) rfl dX5_skip_53 rfl ?_
      refine sw_iload_n (pc' := 55) rfl dX5_skip_54 rfl ?_
      refine sw_V (M' := MX5_hasMore) (d' := d - 1) (bc' := 0) (bs' := 0) (ci := 6) (as := [_]) dX5_skip_55 w_1321 ok_X5_hasMore (q_hasMore hM hk (wMk_g.trans hm) (by rw [wO_g]; exact ov)) hM.ob rfl (by omega) (Nat.le_of_ble_eq_true rfl) (Nat.zero_le _) (Nat.zero_le _) (fun E h' n' _ z => det_x z) (det_k ?_)
      rw [wO_g, wAh_g eA]
      show SW _ _ _ _ _ _ _ (.int (bI (decide (nI (A + j) < nI (σ.2.1 (wO σ k))))) :: _) _ _ _
      refine sw_if_eq (pc' := 61) (tgt := 73) rfl dX5_skip_58 (by decide +kernel) (fun c58 => ?_) (fun c58 => ?_)
      · refine sw_iload_n (pc' := 74) rfl dX5_skip_73 rfl ?_
        refine sw_ret (v := some _) ⟨dX5_skip_74, _, rfl, rfl⟩ ?_
        exact ⟨rfl, rfl, ⟨_, _, hM, hA⟩, hF⟩
      · have g1 := (nI_ltI (by omega) (by omega)).mp (of_decide_eq_true (bI_1 c58))
        have g2 : ¬ B ≤ j := (fun q => c50 ((nI_leI (a := B) (b := j) (by omega) (by omega)).mpr q))
        exact absurd hG (by omega)
  | succ m ih =>
    intro j h ρ τ hj hM hA hF
    obtain ⟨G0, hG0, eG0⟩ := hM.out
    refine sw_iload_n (pc' := 49) rfl dX5_skip_48 rfl ?_
    refine sw_iload_n (pc' := 50) rfl dX5_skip_49 rfl ?_
    refine sw_icmp_ge (pc' := 53) (tgt := 73) rfl dX5_skip_50 (by decide +kernel) (fun c50 => ?_) (fun c50 => ?_)
    · exact absurd c50 (nI_ge (by omega) (by omega))
    · refine sw_aload_n (pc' := 54) rfl dX5_skip_53 rfl ?_
      refine sw_iload_n (pc' := 55) rfl dX5_skip_54 rfl ?_
      refine sw_V (M' := MX5_hasMore) (d' := d - 1) (bc' := 0) (bs' := 0) (ci := 6) (as := [_]) dX5_skip_55 w_1321 ok_X5_hasMore (q_hasMore hM hk (wMk_g.trans hm) (by rw [wO_g]; exact ov)) hM.ob rfl (by omega) (Nat.le_of_ble_eq_true rfl) (Nat.zero_le _) (Nat.zero_le _) (fun E h' n' _ z => det_x z) (det_k ?_)
      rw [wO_g, wAh_g eA]
      show SW _ _ _ _ _ _ _ (.int (bI (decide (nI (A + j) < nI (σ.2.1 (wO σ k))))) :: _) _ _ _
      refine sw_if_eq (pc' := 61) (tgt := 73) rfl dX5_skip_58 (by decide +kernel) (fun c58 => ?_) (fun c58 => ?_)
      · exact absurd (nI_lt (a := A + j) (by omega) (by omega)) (of_decide_eq_false (bI_0 c58))
      · refine sw_aload_n (pc' := 62) rfl dX5_skip_61 rfl ?_
        refine sw_iload_n (pc' := 63) rfl dX5_skip_62 rfl ?_
        refine sw_V (M' := MX5_give) (d' := d - 1) (bc' := 0) (bs' := 0) (ci := 6) (as := [_]) dX5_skip_63 w_1325 ok_X5_give (q_giveG hM hA hk hm ov hc eA (by omega)) hM.ob rfl (by omega) (Nat.le_of_ble_eq_true rfl) (Nat.zero_le _) (Nat.zero_le _) (fun E h' n' _ z => rp_x z) (rp_k (fun p pρ pτ pM pA pF => ?_))
        obtain ⟨Gp, hGp, eGp⟩ := pM.out
        refine sw_pop (pc' := 67) rfl dX5_skip_66 rfl ?_
        refine sw_iinc (pc' := 70) (lv' := [(3, _), (0, _), (1, _), (2, _)]) (v := nI (j + 1)) rfl dX5_skip_67 rfl (nI_1 j) (by decide +kernel) rfl ?_
        refine sw_goto (tgt := 48) dX5_skip_70 (by decide +kernel) ?_
        exact ih (j + 1) p pρ pτ (by omega) pM pA (hF.tr pF (Nat.le_refl _))
theorem q_skip {h : AH} {d bc bs n : Nat} {σ : CS} {th : Int32} {a x : Int32} (hR : RMo h σ th) (hI : Iv σ) (hn : 159 ≤ n) (hd : 8 ≤ d) (h1 : 1 ≤ bc) (h2 : 12 ≤ bs)  : SM SR0 MX5_skip d bc bs [.ref 135, .int a, .int x] h n (PM h n (tc sI sA) (opSkip σ a x)) := by
  obtain ⟨ρ, τ, hM, hA⟩ := hR
  obtain ⟨G0, hG0, eG0⟩ := hM.out
  refine sm_of pn_OverwalksModel rfl (Nat.le_of_ble_eq_true rfl) ?_
  rcases idxN 6 (by decide +kernel) a with qk1 | ⟨k, hk, rfl⟩
  · refine sw_aload_n (pc' := 1) rfl dX5_skip_0 rfl ?_
    refine sw_iload_n (pc' := 2) rfl dX5_skip_1 rfl ?_
    refine sw_S (M' := MX5_isNoWalk) (d' := d - 1) (bc' := 0) (bs' := 0) (as := [_]) dX5_skip_2 w_1306 ok_X5_isNoWalk (q_isNoWalk (by omega)) (by omega) (Nat.le_of_ble_eq_true rfl) (Nat.zero_le _) (Nat.zero_le _) (fun E h' n' _ z => det_x z) (det_k ?_)
    rw [show inB a 0 5 = false from no_x (N := 5) (by decide +kernel) qk1]
    show SW _ _ _ _ _ _ _ (.int 1 :: _) _ _ _
    refine sw_iload_n (pc' := 6) rfl dX5_skip_5 rfl ?_
    refine sw_iconst (pc' := 7) (v := 0) rfl dX5_skip_6 (by decide +kernel) ?_
    refine sw_bipush (pc' := 9) (v := 12) rfl dX5_skip_7 (by decide +kernel) ?_
    refine sw_S (M' := MX5_isIn) (d' := d - 1) (bc' := 0) (bs' := 0) (as := [_, _, _]) dX5_skip_9 w_1168 ok_X5_isIn (q_isIn) (by omega) (Nat.le_of_ble_eq_true rfl) (Nat.zero_le _) (Nat.zero_le _) (fun E h' n' _ z => det_x z) (det_k ?_)
    refine sw_if_ne (pc' := 15) (tgt := 19) rfl dX5_skip_12 (by decide +kernel) (fun c12 => ?_) (fun c12 => ?_)
    · refine sw_iconst (pc' := 20) (v := 0) rfl dX5_skip_19 (by decide +kernel) ?_
      refine sw_aload_n (pc' := 21) rfl dX5_skip_20 rfl ?_
      refine sw_iload_n (pc' := 22) rfl dX5_skip_21 rfl ?_
      refine sw_V (M' := MX5_isUnmade) (d' := d - 1) (bc' := 0) (bs' := 0) (ci := 6) (as := [_]) dX5_skip_22 w_1313 ok_X5_isUnmade (q_isUnmade_x hM (no_x (N := 5) (by decide +kernel) qk1) (by omega)) hM.ob rfl (by omega) (Nat.le_of_ble_eq_true rfl) (Nat.zero_le _) (Nat.zero_le _) (fun E h' n' _ z => det_x z) (det_k ?_)
      refine sw_V (M' := MX5_isStopped) (d' := d - 1) (bc' := 0) (bs' := 0) (ci := 6) (as := [_, _, _]) dX5_skip_25 w_1174 ok_X5_isStopped (q_isStopped (a := true) (b := false) (c := false) hM hA) hM.ob rfl (by omega) (Nat.le_of_ble_eq_true rfl) (Nat.zero_le _) (Nat.zero_le _) (fun E h' n' _ z => rp_x z) (rp_k (fun p25 p25ρ p25τ p25M p25A p25F => ?_))
      obtain ⟨Gp25, hGp25, eGp25⟩ := p25M.out
      show SW _ _ _ _ _ _ _ (.int 1 :: _) _ _ _
      refine sw_if_eq (pc' := 31) (tgt := 33) rfl dX5_skip_28 (by decide +kernel) (fun c28 => ?_) (fun c28 => ?_)
      · exact absurd c28 (by decide +kernel)
      · refine sw_iconst (pc' := 32) (v := 0) rfl dX5_skip_31 (by decide +kernel) ?_
        refine sw_ret (v := some _) ⟨dX5_skip_32, _, rfl, rfl⟩ ?_
        rw [opSkip, onWk_x qk1]
        exact pm_x tc_1 p25M p25A p25F (Nat.le_refl _)
    · refine sw_iconst (pc' := 16) (v := 1) rfl dX5_skip_15 (by decide +kernel) ?_
      refine sw_goto (tgt := 20) dX5_skip_16 (by decide +kernel) ?_
      refine sw_aload_n (pc' := 21) rfl dX5_skip_20 rfl ?_
      refine sw_iload_n (pc' := 22) rfl dX5_skip_21 rfl ?_
      refine sw_V (M' := MX5_isUnmade) (d' := d - 1) (bc' := 0) (bs' := 0) (ci := 6) (as := [_]) dX5_skip_22 w_1313 ok_X5_isUnmade (q_isUnmade_x hM (no_x (N := 5) (by decide +kernel) qk1) (by omega)) hM.ob rfl (by omega) (Nat.le_of_ble_eq_true rfl) (Nat.zero_le _) (Nat.zero_le _) (fun E h' n' _ z => det_x z) (det_k ?_)
      refine sw_V (M' := MX5_isStopped) (d' := d - 1) (bc' := 0) (bs' := 0) (ci := 6) (as := [_, _, _]) dX5_skip_25 w_1174 ok_X5_isStopped (q_isStopped (a := true) (b := true) (c := false) hM hA) hM.ob rfl (by omega) (Nat.le_of_ble_eq_true rfl) (Nat.zero_le _) (Nat.zero_le _) (fun E h' n' _ z => rp_x z) (rp_k (fun p25 p25ρ p25τ p25M p25A p25F => ?_))
      obtain ⟨Gp25, hGp25, eGp25⟩ := p25M.out
      show SW _ _ _ _ _ _ _ (.int 1 :: _) _ _ _
      refine sw_if_eq (pc' := 31) (tgt := 33) rfl dX5_skip_28 (by decide +kernel) (fun c28 => ?_) (fun c28 => ?_)
      · exact absurd c28 (by decide +kernel)
      · refine sw_iconst (pc' := 32) (v := 0) rfl dX5_skip_31 (by decide +kernel) ?_
        refine sw_ret (v := some _) ⟨dX5_skip_32, _, rfl, rfl⟩ ?_
        rw [opSkip, onWk_x qk1]
        exact pm_x tc_1 p25M p25A p25F (Nat.le_refl _)
  have ovk := hI.2.2.2.2.2.2.1 k hk
  have hcwk := hI.1 _ ovk
  rcases idxR 12 (by decide +kernel) x with qB | ⟨B, hB, rfl⟩
  · refine sw_aload_n (pc' := 1) rfl dX5_skip_0 rfl ?_
    refine sw_iload_n (pc' := 2) rfl dX5_skip_1 rfl ?_
    refine sw_S (M' := MX5_isNoWalk) (d' := d - 1) (bc' := 0) (bs' := 0) (as := [_]) dX5_skip_2 w_1306 ok_X5_isNoWalk (q_isNoWalk (by omega)) (by omega) (Nat.le_of_ble_eq_true rfl) (Nat.zero_le _) (Nat.zero_le _) (fun E h' n' _ z => det_x z) (det_k ?_)
    rw [show inB (nI k) 0 5 = true from inB_k (N := 5) (by omega) (by decide +kernel)]
    show SW _ _ _ _ _ _ _ (.int 0 :: _) _ _ _
    refine sw_iload_n (pc' := 6) rfl dX5_skip_5 rfl ?_
    refine sw_iconst (pc' := 7) (v := 0) rfl dX5_skip_6 (by decide +kernel) ?_
    refine sw_bipush (pc' := 9) (v := 12) rfl dX5_skip_7 (by decide +kernel) ?_
    refine sw_S (M' := MX5_isIn) (d' := d - 1) (bc' := 0) (bs' := 0) (as := [_, _, _]) dX5_skip_9 w_1168 ok_X5_isIn (q_isIn) (by omega) (Nat.le_of_ble_eq_true rfl) (Nat.zero_le _) (Nat.zero_le _) (fun E h' n' _ z => det_x z) (det_k ?_)
    rw [show inB x 0 12 = false from inB_x qB]
    show SW _ _ _ _ _ _ _ (.int 0 :: _) _ _ _
    refine sw_if_ne (pc' := 15) (tgt := 19) rfl dX5_skip_12 (by decide +kernel) (fun c12 => ?_) (fun c12 => ?_)
    · exact absurd c12 (by decide +kernel)
    · refine sw_iconst (pc' := 16) (v := 1) rfl dX5_skip_15 (by decide +kernel) ?_
      refine sw_goto (tgt := 20) dX5_skip_16 (by decide +kernel) ?_
      refine sw_aload_n (pc' := 21) rfl dX5_skip_20 rfl ?_
      refine sw_iload_n (pc' := 22) rfl dX5_skip_21 rfl ?_
      refine sw_V (M' := MX5_isUnmade) (d' := d - 1) (bc' := 0) (bs' := 0) (ci := 6) (as := [_]) dX5_skip_22 w_1313 ok_X5_isUnmade (q_isUnmade_k hM (k := k) (by omega) (hI.2.2.2.2.2.2.1 k (by omega)) (by omega)) hM.ob rfl (by omega) (Nat.le_of_ble_eq_true rfl) (Nat.zero_le _) (Nat.zero_le _) (fun E h' n' _ z => det_x z) (det_k ?_)
      refine sw_V (M' := MX5_isStopped) (d' := d - 1) (bc' := 0) (bs' := 0) (ci := 6) (as := [_, _, _]) dX5_skip_25 w_1174 ok_X5_isStopped (q_isStopped (a := false) (b := true) (c := (!(σ.2.2.2.2.1 k).1)) hM hA) hM.ob rfl (by omega) (Nat.le_of_ble_eq_true rfl) (Nat.zero_le _) (Nat.zero_le _) (fun E h' n' _ z => rp_x z) (rp_k (fun p25 p25ρ p25τ p25M p25A p25F => ?_))
      obtain ⟨Gp25, hGp25, eGp25⟩ := p25M.out
      show SW _ _ _ _ _ _ _ (.int 1 :: _) _ _ _
      refine sw_if_eq (pc' := 31) (tgt := 33) rfl dX5_skip_28 (by decide +kernel) (fun c28 => ?_) (fun c28 => ?_)
      · exact absurd c28 (by decide +kernel)
      · refine sw_iconst (pc' := 32) (v := 0) rfl dX5_skip_31 (by decide +kernel) ?_
        refine sw_ret (v := some _) ⟨dX5_skip_32, _, rfl, rfl⟩ ?_
        rw [opSkip, onWk_k hk, if_pos (show x < 0 ∨ 12 < x from qB)]
        exact pm_x (tc_2 sAI) p25M p25A p25F (Nat.le_refl _)
  rcases Classical.em ((σ.2.2.2.2.1 k).1 = false) with qm | qm
  · refine sw_aload_n (pc' := 1) rfl dX5_skip_0 rfl ?_
    refine sw_iload_n (pc' := 2) rfl dX5_skip_1 rfl ?_
    refine sw_S (M' := MX5_isNoWalk) (d' := d - 1) (bc' := 0) (bs' := 0) (as := [_]) dX5_skip_2 w_1306 ok_X5_isNoWalk (q_isNoWalk (by omega)) (by omega) (Nat.le_of_ble_eq_true rfl) (Nat.zero_le _) (Nat.zero_le _) (fun E h' n' _ z => det_x z) (det_k ?_)
    rw [show inB (nI k) 0 5 = true from inB_k (N := 5) (by omega) (by decide +kernel)]
    show SW _ _ _ _ _ _ _ (.int 0 :: _) _ _ _
    refine sw_iload_n (pc' := 6) rfl dX5_skip_5 rfl ?_
    refine sw_iconst (pc' := 7) (v := 0) rfl dX5_skip_6 (by decide +kernel) ?_
    refine sw_bipush (pc' := 9) (v := 12) rfl dX5_skip_7 (by decide +kernel) ?_
    refine sw_S (M' := MX5_isIn) (d' := d - 1) (bc' := 0) (bs' := 0) (as := [_, _, _]) dX5_skip_9 w_1168 ok_X5_isIn (q_isIn) (by omega) (Nat.le_of_ble_eq_true rfl) (Nat.zero_le _) (Nat.zero_le _) (fun E h' n' _ z => det_x z) (det_k ?_)
    rw [show inB (nI B) 0 12 = true from inB_k (N := 12) hB (by decide +kernel)]
    show SW _ _ _ _ _ _ _ (.int 1 :: _) _ _ _
    refine sw_if_ne (pc' := 15) (tgt := 19) rfl dX5_skip_12 (by decide +kernel) (fun c12 => ?_) (fun c12 => ?_)
    · refine sw_iconst (pc' := 20) (v := 0) rfl dX5_skip_19 (by decide +kernel) ?_
      refine sw_aload_n (pc' := 21) rfl dX5_skip_20 rfl ?_
      refine sw_iload_n (pc' := 22) rfl dX5_skip_21 rfl ?_
      refine sw_V (M' := MX5_isUnmade) (d' := d - 1) (bc' := 0) (bs' := 0) (ci := 6) (as := [_]) dX5_skip_22 w_1313 ok_X5_isUnmade (q_isUnmade_k hM (k := k) (by omega) (hI.2.2.2.2.2.2.1 k (by omega)) (by omega)) hM.ob rfl (by omega) (Nat.le_of_ble_eq_true rfl) (Nat.zero_le _) (Nat.zero_le _) (fun E h' n' _ z => det_x z) (det_k ?_)
      rw [show (σ.2.2.2.2.1 k).1 = false from qm]
      show SW _ _ _ _ _ _ _ (.int 1 :: _) _ _ _
      refine sw_V (M' := MX5_isStopped) (d' := d - 1) (bc' := 0) (bs' := 0) (ci := 6) (as := [_, _, _]) dX5_skip_25 w_1174 ok_X5_isStopped (q_isStopped (a := false) (b := false) (c := true) hM hA) hM.ob rfl (by omega) (Nat.le_of_ble_eq_true rfl) (Nat.zero_le _) (Nat.zero_le _) (fun E h' n' _ z => rp_x z) (rp_k (fun p25 p25ρ p25τ p25M p25A p25F => ?_))
      obtain ⟨Gp25, hGp25, eGp25⟩ := p25M.out
      show SW _ _ _ _ _ _ _ (.int 1 :: _) _ _ _
      refine sw_if_eq (pc' := 31) (tgt := 33) rfl dX5_skip_28 (by decide +kernel) (fun c28 => ?_) (fun c28 => ?_)
      · exact absurd c28 (by decide +kernel)
      · refine sw_iconst (pc' := 32) (v := 0) rfl dX5_skip_31 (by decide +kernel) ?_
        refine sw_ret (v := some _) ⟨dX5_skip_32, _, rfl, rfl⟩ ?_
        rw [opSkip, onWk_k hk, if_neg (show ¬ (nI B < 0 ∨ 12 < nI B) from nin (N := 12) (by decide +kernel) hB), nI_clamp (n := B) (by omega), if_pos qm]
        exact pm_x (tc_3 sSI sSA) p25M p25A p25F (Nat.le_refl _)
    · exact absurd c12 (by decide +kernel)
  refine sw_aload_n (pc' := 1) rfl dX5_skip_0 rfl ?_
  refine sw_iload_n (pc' := 2) rfl dX5_skip_1 rfl ?_
  refine sw_S (M' := MX5_isNoWalk) (d' := d - 1) (bc' := 0) (bs' := 0) (as := [_]) dX5_skip_2 w_1306 ok_X5_isNoWalk (q_isNoWalk (by omega)) (by omega) (Nat.le_of_ble_eq_true rfl) (Nat.zero_le _) (Nat.zero_le _) (fun E h' n' _ z => det_x z) (det_k ?_)
  rw [show inB (nI k) 0 5 = true from inB_k (N := 5) (by omega) (by decide +kernel)]
  show SW _ _ _ _ _ _ _ (.int 0 :: _) _ _ _
  refine sw_iload_n (pc' := 6) rfl dX5_skip_5 rfl ?_
  refine sw_iconst (pc' := 7) (v := 0) rfl dX5_skip_6 (by decide +kernel) ?_
  refine sw_bipush (pc' := 9) (v := 12) rfl dX5_skip_7 (by decide +kernel) ?_
  refine sw_S (M' := MX5_isIn) (d' := d - 1) (bc' := 0) (bs' := 0) (as := [_, _, _]) dX5_skip_9 w_1168 ok_X5_isIn (q_isIn) (by omega) (Nat.le_of_ble_eq_true rfl) (Nat.zero_le _) (Nat.zero_le _) (fun E h' n' _ z => det_x z) (det_k ?_)
  rw [show inB (nI B) 0 12 = true from inB_k (N := 12) hB (by decide +kernel)]
  show SW _ _ _ _ _ _ _ (.int 1 :: _) _ _ _
  refine sw_if_ne (pc' := 15) (tgt := 19) rfl dX5_skip_12 (by decide +kernel) (fun c12 => ?_) (fun c12 => ?_)
  · refine sw_iconst (pc' := 20) (v := 0) rfl dX5_skip_19 (by decide +kernel) ?_
    refine sw_aload_n (pc' := 21) rfl dX5_skip_20 rfl ?_
    refine sw_iload_n (pc' := 22) rfl dX5_skip_21 rfl ?_
    refine sw_V (M' := MX5_isUnmade) (d' := d - 1) (bc' := 0) (bs' := 0) (ci := 6) (as := [_]) dX5_skip_22 w_1313 ok_X5_isUnmade (q_isUnmade_k hM (k := k) (by omega) (hI.2.2.2.2.2.2.1 k (by omega)) (by omega)) hM.ob rfl (by omega) (Nat.le_of_ble_eq_true rfl) (Nat.zero_le _) (Nat.zero_le _) (fun E h' n' _ z => det_x z) (det_k ?_)
    rw [show (σ.2.2.2.2.1 k).1 = true from (mkT qm)]
    show SW _ _ _ _ _ _ _ (.int 0 :: _) _ _ _
    refine sw_V (M' := MX5_isStopped) (d' := d - 1) (bc' := 0) (bs' := 0) (ci := 6) (as := [_, _, _]) dX5_skip_25 w_1174 ok_X5_isStopped (q_isStopped (a := false) (b := false) (c := false) hM hA) hM.ob rfl (by omega) (Nat.le_of_ble_eq_true rfl) (Nat.zero_le _) (Nat.zero_le _) (fun E h' n' _ z => rp_x z) (rp_k (fun p25 p25ρ p25τ p25M p25A p25F => ?_))
    obtain ⟨Gp25, hGp25, eGp25⟩ := p25M.out
    show SW _ _ _ _ _ _ _ (.int 0 :: _) _ _ _
    refine sw_if_eq (pc' := 31) (tgt := 33) rfl dX5_skip_28 (by decide +kernel) (fun c28 => ?_) (fun c28 => ?_)
    · refine sw_aload_n (pc' := 34) rfl dX5_skip_33 rfl ?_
      refine sw_iload_n (pc' := 35) rfl dX5_skip_34 rfl ?_
      refine sw_V (M' := MX5_isStale) (d' := d - 1) (bc' := 0) (bs' := 0) (ci := 6) (as := [_]) dX5_skip_35 w_1317 ok_X5_isStale (q_isStale p25M (k := k) (by omega) (mkT qm) (hI.2.2.2.2.2.2.1 k (by omega))) p25M.ob rfl (by omega) (Nat.le_of_ble_eq_true rfl) (Nat.zero_le _) (Nat.zero_le _) (fun E h' n' _ z => det_x z) (det_k ?_)
      refine sw_if_eq (pc' := 41) (tgt := 46) rfl dX5_skip_38 (by decide +kernel) (fun c38 => ?_) (fun c38 => ?_)
      · refine sw_iconst (pc' := 47) (v := 0) rfl dX5_skip_46 (by decide +kernel) ?_
        refine sw_istore_n (pc' := 48) (lv' := [(3, _), (0, _), (1, _), (2, _)]) rfl dX5_skip_47 (by decide +kernel) rfl ?_
        obtain ⟨A, eA, hA1, hA2⟩ := hI.2.2.2.2.2.2.2 k hk (mkT qm) (bI_0 c38)
        have eG := wGu_c (m := B) (bI_0 c38) hcwk eA hA1
        have g := ql_skip (d := d) (bc := bc) (bs := bs) (A := A) (B := B) (G := wGu σ k B) hk (mkT qm) ovk hcwk eA (by rw [eG]; split <;> omega) hB (by rw [eG]; split <;> omega) (by rw [eG]; split <;> omega) (by omega) (wGu σ k B) 0 p25 _ _ (by omega) (by rw [gvU_0]; exact p25M) (by rw [gvU_0]; exact p25A) p25F
        refine SW.post g (fun r' h' n' z => ?_)
        obtain ⟨rfl, rfl, ⟨_, _, qM, qA⟩, qF⟩ := z
        rw [opSkip, onWk_k hk, if_neg (show ¬ (nI B < 0 ∨ 12 < nI B) from nin (N := 12) (by decide +kernel) hB), nI_clamp (n := B) (by omega), if_neg qm, if_neg (fun e => Bool.noConfusion (e.symm.trans (bI_0 c38)))]
        exact pm_k qM qA qF (Nat.le_refl _)
      · refine sw_aload_n (pc' := 42) rfl dX5_skip_41 rfl ?_
        refine sw_V (M' := MX5_no) (d' := d - 1) (bc' := 0) (bs' := 0) (ci := 6) (as := []) dX5_skip_42 w_1184 ok_X5_no (q_no p25M p25A) p25M.ob rfl (by omega) (Nat.le_of_ble_eq_true rfl) (Nat.zero_le _) (Nat.zero_le _) (fun E h' n' _ z => rp_x z) (rp_k (fun p42 p42ρ p42τ p42M p42A p42F => ?_))
        obtain ⟨Gp42, hGp42, eGp42⟩ := p42M.out
        refine sw_ret (v := some _) ⟨dX5_skip_45, _, rfl, rfl⟩ ?_
        rw [opSkip, onWk_k hk, if_neg (show ¬ (nI B < 0 ∨ 12 < nI B) from nin (N := 12) (by decide +kernel) hB), nI_clamp (n := B) (by omega), if_neg qm, if_pos (bI_1 c38)]
        exact pm_k p42M p42A (p25F.tr p42F (Nat.le_refl _)) (Nat.le_refl _)
    · exact absurd c28 (by decide +kernel)
  · exact absurd c12 (by decide +kernel)
