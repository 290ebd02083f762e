/-! the model: turn, rotate, pour, pair, pourRest, takeOut -/
theorem i_sub2 {a b : Int32} : a - (b + 1) = a - b - 1 := by
  rw [Int32.sub_eq_add_neg, Int32.neg_add, Int32.sub_eq_add_neg, Int32.sub_eq_add_neg, Int32.sub_eq_add_neg a b, Int32.add_assoc]
theorem MM.placeU {h h' : AH} {ρ : Nat → Nat → Int32} {τ : Nat → Int32} {σ : CS} {th : Int32} {k A : Nat} (hM : MM h ρ τ σ th) (hk : k < 6) (eA : wAh σ k = nI A) (hA : 1 ≤ A) (e4 : h' 154 = .inl (0, 6, .inl (up (wAh σ) k (nI (A - 1))))) (hF : ∀ i, i ≠ 154 → h' i = h i) : MM h' ρ (up τ k (τ k)) (wU σ k ((σ.2.2.2.2.1 k).1, wO σ k, (σ.2.2.2.2.1 k).2.2.1, (σ.2.2.2.2.1 k).2.2.2.1, (σ.2.2.2.2.1 k).2.2.2.2.1 + 1, (σ.2.2.2.2.1 k).2.2.2.2.2.1, (σ.2.2.2.2.1 k).2.2.2.2.2.2.1, (σ.2.2.2.2.1 k).2.2.2.2.2.2.2)) th := by
  refine hM.wkU hk (q := ((σ.2.2.2.2.1 k).1, wO σ k, (σ.2.2.2.2.1 k).2.2.1, (σ.2.2.2.2.1 k).2.2.2.1, (σ.2.2.2.2.1 k).2.2.2.2.1 + 1, (σ.2.2.2.2.1 k).2.2.2.2.2.1, (σ.2.2.2.2.1 k).2.2.2.2.2.2.1, (σ.2.2.2.2.1 k).2.2.2.2.2.2.2)) ?_ ?_ ?_ ?_ ?_ ?_ ?_ (fun i hi => hF i (by omega))
  · rw [hF 150 (by decide +kernel), hM.sh]
    show _ = Sum.inl (0, 6, Sum.inl (up (shF σ) k (if (σ.2.2.2.2.1 k).1 = true then nI (wO σ k) else -1)))
    rw [show (if (σ.2.2.2.2.1 k).1 = true then nI (wO σ k) else -1) = shF σ k from by unfold shF; rw [if_pos hk], up_id]
  · rw [hF 151 (by decide +kernel), hM.hw]
    show _ = Sum.inl (0, 6, Sum.inl (up (fun j => (σ.2.2.2.2.1 j).2.2.1) k ((fun j => (σ.2.2.2.2.1 j).2.2.1) k)))
    rw [up_id]
  · rw [hF 152 (by decide +kernel), hM.gi]
    show _ = Sum.inl (0, 6, Sum.inl (up (fun j => (σ.2.2.2.2.1 j).2.2.2.1) k ((fun j => (σ.2.2.2.2.1 j).2.2.2.1) k)))
    rw [up_id]
  · rw [hF 153 (by decide +kernel), hM.st]
    show _ = Sum.inl (0, 6, Sum.inl (up (fun j => (σ.2.2.2.2.1 j).2.2.2.2.2.1) k ((fun j => (σ.2.2.2.2.1 j).2.2.2.2.2.1) k)))
    rw [up_id]
  · rw [e4]
    show _ = Sum.inl (0, 6, Sum.inl (up (wAh σ) k ((σ.2.2.2.2.1 k).2.2.2.1 - ((σ.2.2.2.2.1 k).2.2.2.2.1 + 1))))
    rw [show (σ.2.2.2.2.1 k).2.2.2.1 - ((σ.2.2.2.2.1 k).2.2.2.2.1 + 1) = wAh σ k - 1 from i_sub2, eA, nI_m1 (by omega)]
  · rw [hF 155 (by decide +kernel), hM.ct]
    show _ = Sum.inl (1, 6, Sum.inl (up (fun j => bI (σ.2.2.2.2.1 j).2.2.2.2.2.2.2) k ((fun j => bI (σ.2.2.2.2.1 j).2.2.2.2.2.2.2) k)))
    rw [up_id]
  · rw [hF 157 (by decide +kernel), hM.td, up_id]
theorem AG.placeU {ρ : Nat → Nat → Int32} {τ : Nat → Int32} {σ : CS} {k : Nat} {a b c d : Int32} {m : Bool} {o : Nat} (hA : AG ρ τ σ) (hk : k < 6) : AG ρ (up τ k (τ k)) (wU σ k (m, o, a, b, c, d, (σ.2.2.2.2.1 k).2.2.2.2.2.2.1, (σ.2.2.2.2.1 k).2.2.2.2.2.2.2)) := hA.wkU (hA.2 k hk)
/-- it may not take out again, and is not stale by that -/
theorem MM.stampU {h h' : AH} {ρ : Nat → Nat → Int32} {τ : Nat → Int32} {σ : CS} {th : Int32} {k s : Nat} (hM : MM h ρ τ σ th) (hk : k < 6) (hs : shF σ k = nI s) (e5 : h' 155 = .inl (1, 6, .inl (up (fun j => bI (σ.2.2.2.2.1 j).2.2.2.2.2.2.2) k (vp_nar .boolean 0)))) (e3 : h' 153 = .inl (0, 6, .inl (up (fun j => (σ.2.2.2.2.1 j).2.2.2.2.2.1) k (σ.2.2.1 s)))) (hF : ∀ i, i ≠ 153 → i ≠ 155 → h' i = h i) : MM h' ρ (up τ k (τ k)) (wU σ k ((σ.2.2.2.2.1 k).1, wO σ k, (σ.2.2.2.2.1 k).2.2.1, (σ.2.2.2.2.1 k).2.2.2.1, (σ.2.2.2.2.1 k).2.2.2.2.1, σ.2.2.1 s, (σ.2.2.2.2.1 k).2.2.2.2.2.2.1, false)) th := by
  refine hM.wkU hk (q := ((σ.2.2.2.2.1 k).1, wO σ k, (σ.2.2.2.2.1 k).2.2.1, (σ.2.2.2.2.1 k).2.2.2.1, (σ.2.2.2.2.1 k).2.2.2.2.1, σ.2.2.1 s, (σ.2.2.2.2.1 k).2.2.2.2.2.2.1, false)) ?_ ?_ ?_ e3 ?_ e5 ?_ (fun i hi => hF i (by omega) (by omega))
  · rw [hF 150 (by decide +kernel) (by decide +kernel), hM.sh]
    show _ = Sum.inl (0, 6, Sum.inl (up (shF σ) k (if (σ.2.2.2.2.1 k).1 = true then nI (wO σ k) else -1)))
    rw [show (if (σ.2.2.2.2.1 k).1 = true then nI (wO σ k) else -1) = shF σ k from by unfold shF; rw [if_pos hk], up_id]
  · rw [hF 151 (by decide +kernel) (by decide +kernel), hM.hw]
    show _ = Sum.inl (0, 6, Sum.inl (up (fun j => (σ.2.2.2.2.1 j).2.2.1) k ((fun j => (σ.2.2.2.2.1 j).2.2.1) k)))
    rw [up_id]
  · rw [hF 152 (by decide +kernel) (by decide +kernel), hM.gi]
    show _ = Sum.inl (0, 6, Sum.inl (up (fun j => (σ.2.2.2.2.1 j).2.2.2.1) k ((fun j => (σ.2.2.2.2.1 j).2.2.2.1) k)))
    rw [up_id]
  · rw [hF 154 (by decide +kernel) (by decide +kernel), hM.pl]
    show _ = Sum.inl (0, 6, Sum.inl (up (wAh σ) k (wAh σ k)))
    rw [up_id]
  · rw [hF 157 (by decide +kernel) (by decide +kernel), hM.td, up_id]
theorem AG.stampU {ρ : Nat → Nat → Int32} {τ : Nat → Int32} {σ : CS} {k : Nat} {a b c d e : Int32} {m : Bool} {o : Nat} (hA : AG ρ τ σ) : AG ρ (up τ k (τ k)) (wU σ k (m, o, a, b, c, d, e, false)) := hA.wkU (fun e => by cases e)
theorem liU_wU {σ : CS} {k s p : Nat} {q : WT} : liU (wU σ k q) s p = wU (liU σ s p) k q := by
  unfold liU
  split <;> rfl
theorem wO_wU {σ : CS} {k : Nat} {q : WT} : wO (wU σ k q) k = q.2.1 := by
  unfold wO wU
  show (up σ.2.2.2.2.1 k q k).2.1 = _
  rw [up_s]
theorem liU_wk {σ : CS} {s p : Nat} : (liU σ s p).2.2.2.2.1 = σ.2.2.2.2.1 := by
  unfold liU
  split <;> rfl
theorem wCt_t {σ : CS} {k : Nat} (h1 : (σ.2.2.2.2.1 k).2.2.2.2.2.2.2 = true) (h2 : (σ.2.2.2.2.1 k).2.2.2.2.2.2.1 = σ.2.2.2.1 (wO σ k)) : wCt σ k = true := by unfold wCt; rw [h1, decide_eq_true h2.symm]; rfl
theorem wCt_f1 {σ : CS} {k : Nat} (h1 : (σ.2.2.2.2.1 k).2.2.2.2.2.2.2 = false) : wCt σ k = false := by unfold wCt; rw [h1]; rfl
theorem wCt_f2 {σ : CS} {k : Nat} (h2 : ¬ (σ.2.2.2.2.1 k).2.2.2.2.2.2.1 = σ.2.2.2.1 (wO σ k)) : wCt σ k = false := by unfold wCt; rw [decide_eq_false (fun q => h2 q.symm), Bool.and_false]
theorem cpB_1 {σ : CS} {k j : Nat} (h : kdO j = 5) : cpB σ k j = true := by unfold cpB; rw [decide_eq_true h]; rfl
theorem cpB_2 {σ : CS} {k j : Nat} (h : nnB σ k j = true) : cpB σ k j = true := by unfold cpB; rw [h, Bool.or_true]
theorem cpB_f {σ : CS} {k j : Nat} (h : ¬ kdO j = 5) (g : nnB σ k j = false) : cpB σ k j = false := by unfold cpB; rw [decide_eq_false h, g]; rfl
theorem liU_ix {σ : CS} {k p : Nat} (hI : Iv σ) (hk : k < 11) (hp : p < σ.2.1 k) : (¬ kdO k = 5 → p < σ.2.1 k) ∧ (kdO k = 5 → (σ.2.1 6 ≤ 12 ∧ p < σ.2.1 6 ∧ σ.2.1 7 ≤ 12 ∧ p < σ.2.1 7)) := ⟨fun _ => hp, lv6 hI hk hp⟩
theorem ql_turn {h : AH} {d bc bs N : Nat} {ρ : Nat → Nat → Int32} {τ : Nat → Int32} {σ : CS} {th : Int32} {Post : ARes → AH → Nat → Prop} (hM : MM h ρ τ σ th) (hA : AG ρ τ σ) {k : Nat} (hk : k < 11) (hc : σ.2.1 k ≤ 12) {a : Nat} {g : Nat → Int32} (ha : 158 ≤ a) (hB : h a = .inl (0, σ.2.1 k, .inl g)) (hg : ∀ j, j < σ.2.1 k → g j = σ.1 k j)  (fq : ∀ (h' : AH) (r : Nat → Int32), (∀ i, i < σ.2.1 k → r i = σ.1 k (σ.2.1 k - 1 - i)) → (∀ f, MM h' (up ρ k r) τ (sU σ k f (σ.2.1 k) (σ.2.2.1 k) (σ.2.2.2.1 k + 1)) th) → (∀ i, i < 135 ∨ 158 ≤ i → h' i = h i) → Post (.inl (some (.int (nI (σ.2.1 k))))) h' N) (m : Nat) : ∀ (j : Nat) (q : AH) (r : Nat → Int32), j + m = σ.2.1 k → q (137 + k) = .inl (0, 12, .inl r) → (∀ i, i < j → r i = σ.1 k (σ.2.1 k - 1 - i)) → (∀ i, i ≠ 137 + k → q i = h i) → SW SR0 MX5_turn d bc bs 22 [(3, .int (nI j)), (2, .ref a), (0, .ref 135), (1, .int (nI k))] [] q N Post := by
  obtain ⟨G0, hG0, eG0⟩ := hM.out
  induction m with
  | zero =>
    intro j q r hj hr hf hF
    have hjc : j = σ.2.1 k := by omega
    subst hjc
    refine sw_iload_n (pc' := 23) rfl dX5_turn_22 rfl ?_
    refine sw_aload_n (pc' := 24) rfl dX5_turn_23 rfl ?_
    refine sw_alen (pc' := 25) rfl dX5_turn_24 ((hF a (by omega)).trans hB) (by decide +kernel) (Or.inl (by show 100 ≤ _; omega)) ?_
    refine sw_icmp_ge (pc' := 28) (tgt := 50) rfl dX5_turn_25 (by decide +kernel) (fun c25 => ?_) (fun c25 => ?_)
    · refine sw_aload_n (pc' := 51) rfl dX5_turn_50 rfl ?_
      refine sw_getf (ci := 6) (k := 12) (pc' := 54) rfl dX5_turn_51 (by decide +kernel) w_1125 ((hF 135 (by omega)).trans hM.ob) rfl ?_
      refine sw_iload_n (pc' := 55) rfl dX5_turn_54 rfl ?_
      refine sw_dup2 (pc' := 56) rfl dX5_turn_55 rfl rfl ?_
      refine sw_iald (j := k) (pc' := 57) rfl dX5_turn_56 ((hF 156 (by omega)).trans hM.tu) rfl (by omega) (by decide +kernel) ?_
      refine sw_iconst (pc' := 58) (v := 1) rfl dX5_turn_57 (by decide +kernel) ?_
      refine sw_iadd (pc' := 59) rfl dX5_turn_58 ?_
      refine sw_iast (j := k) (pc' := 60) rfl dX5_turn_59 ((hF 156 (by omega)).trans hM.tu) (by decide +kernel) rfl (by omega) (by decide +kernel) ?_
      refine sw_nm (fun g1 eg1 => ?_)
      have zg1 := (congrFun eg1 156).trans (up_s (h := q) (i := 156))
      refine sw_aload_n (pc' := 61) rfl dX5_turn_60 rfl ?_
      refine sw_alen (pc' := 62) rfl dX5_turn_61 (((congrFun eg1 a).trans (up_n (by omega))).trans ((hF a (by omega)).trans hB)) (by decide +kernel) (Or.inl (by show 100 ≤ _; omega)) ?_
      refine sw_ret (v := some _) ⟨dX5_turn_62, _, rfl, rfl⟩ ?_
      exact fq g1 r hf (fun f => hM.rwT hk (((congrFun eg1 (137 + k)).trans (up_n (by omega))).trans hr) zg1 (fun i h1 h2 => (congrFun eg1 i).trans ((up_n h2).trans (hF i h1)))) (fun i q => (congrFun eg1 i).trans ((up_n (by omega)).trans (hF i (by omega))))
    · exact absurd (Int32.le_refl _) c25
  | succ m ih =>
    intro j q r hj hr hf hF
    refine sw_iload_n (pc' := 23) rfl dX5_turn_22 rfl ?_
    refine sw_aload_n (pc' := 24) rfl dX5_turn_23 rfl ?_
    refine sw_alen (pc' := 25) rfl dX5_turn_24 ((hF a (by omega)).trans hB) (by decide +kernel) (Or.inl (by show 100 ≤ _; omega)) ?_
    refine sw_icmp_ge (pc' := 28) (tgt := 50) rfl dX5_turn_25 (by decide +kernel) (fun c25 => ?_) (fun c25 => ?_)
    · exact absurd c25 (nI_ge (by omega) (by omega))
    · refine sw_aload_n (pc' := 29) rfl dX5_turn_28 rfl ?_
      refine sw_getf (ci := 6) (k := 3) (pc' := 32) rfl dX5_turn_29 (by decide +kernel) w_1116 ((hF 135 (by omega)).trans hM.ob) rfl ?_
      refine sw_iload_n (pc' := 33) rfl dX5_turn_32 rfl ?_
      refine sw_aald (j := k) (pc' := 34) rfl dX5_turn_33 ((hF 136 (by omega)).trans hG0) (by decide +kernel) (by decide +kernel) rfl (by omega) (by decide +kernel) (eG0 k (by omega)) ?_
      refine sw_iload_n (pc' := 35) rfl dX5_turn_34 rfl ?_
      refine sw_aload_n (pc' := 36) rfl dX5_turn_35 rfl ?_
      refine sw_aload_n (pc' := 37) rfl dX5_turn_36 rfl ?_
      refine sw_alen (pc' := 38) rfl dX5_turn_37 ((hF a (by omega)).trans hB) (by decide +kernel) (Or.inl (by show 100 ≤ _; omega)) ?_
      refine sw_iconst (pc' := 39) (v := 1) rfl dX5_turn_38 (by decide +kernel) ?_
      refine sw_isub (pc' := 40) rfl dX5_turn_39 ?_
      refine sw_iload_n (pc' := 41) rfl dX5_turn_40 rfl ?_
      refine sw_isub (pc' := 42) rfl dX5_turn_41 ?_
      rw [nI_m1 (by omega), pk_sub (by omega)]
      refine sw_iald (j := σ.2.1 k - 1 - j) (pc' := 43) rfl dX5_turn_42 ((hF a (by omega)).trans hB) rfl (by omega) (by omega) ?_
      rw [hg (σ.2.1 k - 1 - j) (by omega)]
      refine sw_iast (j := j) (pc' := 44) rfl dX5_turn_43 hr (by show 100 ≤ _; omega) rfl (by omega) (by decide +kernel) ?_
      refine sw_nm (fun g2 eg2 => ?_)
      have zg2 := (congrFun eg2 (137 + k)).trans (up_s (h := q) (i := (137 + k)))
      refine sw_iinc (pc' := 47) (lv' := [(3, _), (2, _), (0, _), (1, _)]) (v := nI (j + 1)) rfl dX5_turn_44 rfl (nI_1 j) (by decide +kernel) rfl ?_
      refine sw_goto (tgt := 22) dX5_turn_47 (by decide +kernel) ?_
      exact ih (j + 1) g2 _ (by omega) zg2 (fun i hi => (Nat.lt_or_ge i j).elim (fun g => (up_n (by omega)).trans (hf i g)) (fun g => (show i = j by omega) ▸ up_s)) (fun i h1 => (congrFun eg2 i).trans ((up_n h1).trans (hF i h1)))
theorem q_turn {h : AH} {d bc bs n : Nat} {σ : CS} {th : Int32} {a : Int32} (hR : RMo h σ th) (hI : Iv σ) (hn : 159 ≤ n) (hd : 8 ≤ d) (h1 : 1 ≤ bc) (h2 : 12 ≤ bs)  : SM SR0 MX5_turn d bc bs [.ref 135, .int a] h n (PM h n (tc sI sI) (opTurn σ a)) := by
  obtain ⟨ρ, τ, hM, hA⟩ := hR
  obtain ⟨G0, hG0, eG0⟩ := hM.out
  refine sm_of pn_OverwalksModel rfl (Nat.le_of_ble_eq_true rfl) ?_
  rcases idxN 11 (by decide +kernel) a with qk1 | ⟨k, hk, rfl⟩
  · refine sw_aload_n (pc' := 1) rfl dX5_turn_0 rfl ?_
    refine sw_iload_n (pc' := 2) rfl dX5_turn_1 rfl ?_
    refine sw_S (M' := MX5_isNoRow) (d' := d - 1) (bc' := 0) (bs' := 0) (as := [_]) dX5_turn_2 w_1267 ok_X5_isNoRow (q_isNoRow (by omega)) (by omega) (Nat.le_of_ble_eq_true rfl) (Nat.zero_le _) (Nat.zero_le _) (fun E h' n' _ z => det_x z) (det_k ?_)
    rw [show nrB a = true from nrB_x qk1]
    show SW _ _ _ _ _ _ _ (.int 1 :: _) _ _ _
    refine sw_V (M' := MX5_isStopped__) (d' := d - 1) (bc' := 0) (bs' := 0) (ci := 6) (as := [_]) dX5_turn_5 w_1235 ok_X5_isStopped__ (q_isStopped1 (a := true) hM hA (by omega)) hM.ob rfl (by omega) (Nat.le_of_ble_eq_true rfl) (Nat.zero_le _) (Nat.zero_le _) (fun E h' n' _ z => rp_x z) (rp_k (fun p5 p5ρ p5τ p5M p5A p5F => ?_))
    obtain ⟨Gp5, hGp5, eGp5⟩ := p5M.out
    show SW _ _ _ _ _ _ _ (.int 1 :: _) _ _ _
    refine sw_if_eq (pc' := 11) (tgt := 13) rfl dX5_turn_8 (by decide +kernel) (fun c8 => ?_) (fun c8 => ?_)
    · exact absurd c8 (by decide +kernel)
    · refine sw_iconst (pc' := 12) (v := 0) rfl dX5_turn_11 (by decide +kernel) ?_
      refine sw_ret (v := some _) ⟨dX5_turn_12, _, rfl, rfl⟩ ?_
      rw [opTurn, onRw_x qk1]
      exact pm_x tc_1 p5M p5A p5F (Nat.le_refl _)
  rcases Classical.em (kP (kdO k) = false) with qk | qk
  · refine sw_aload_n (pc' := 1) rfl dX5_turn_0 rfl ?_
    refine sw_iload_n (pc' := 2) rfl dX5_turn_1 rfl ?_
    refine sw_S (M' := MX5_isNoRow) (d' := d - 1) (bc' := 0) (bs' := 0) (as := [_]) dX5_turn_2 w_1267 ok_X5_isNoRow (q_isNoRow (by omega)) (by omega) (Nat.le_of_ble_eq_true rfl) (Nat.zero_le _) (Nat.zero_le _) (fun E h' n' _ z => det_x z) (det_k ?_)
    rw [show nrB (nI k) = true from nrB_y hk qk]
    show SW _ _ _ _ _ _ _ (.int 1 :: _) _ _ _
    refine sw_V (M' := MX5_isStopped__) (d' := d - 1) (bc' := 0) (bs' := 0) (ci := 6) (as := [_]) dX5_turn_5 w_1235 ok_X5_isStopped__ (q_isStopped1 (a := true) hM hA (by omega)) hM.ob rfl (by omega) (Nat.le_of_ble_eq_true rfl) (Nat.zero_le _) (Nat.zero_le _) (fun E h' n' _ z => rp_x z) (rp_k (fun p5 p5ρ p5τ p5M p5A p5F => ?_))
    obtain ⟨Gp5, hGp5, eGp5⟩ := p5M.out
    show SW _ _ _ _ _ _ _ (.int 1 :: _) _ _ _
    refine sw_if_eq (pc' := 11) (tgt := 13) rfl dX5_turn_8 (by decide +kernel) (fun c8 => ?_) (fun c8 => ?_)
    · exact absurd c8 (by decide +kernel)
    · refine sw_iconst (pc' := 12) (v := 0) rfl dX5_turn_11 (by decide +kernel) ?_
      refine sw_ret (v := some _) ⟨dX5_turn_12, _, rfl, rfl⟩ ?_
      rw [opTurn, onRw_y hk qk]
      exact pm_x tc_1 p5M p5A p5F (Nat.le_refl _)
  have hck := hI.1 k hk
  refine sw_aload_n (pc' := 1) rfl dX5_turn_0 rfl ?_
  refine sw_iload_n (pc' := 2) rfl dX5_turn_1 rfl ?_
  refine sw_S (M' := MX5_isNoRow) (d' := d - 1) (bc' := 0) (bs' := 0) (as := [_]) dX5_turn_2 w_1267 ok_X5_isNoRow (q_isNoRow (by omega)) (by omega) (Nat.le_of_ble_eq_true rfl) (Nat.zero_le _) (Nat.zero_le _) (fun E h' n' _ z => det_x z) (det_k ?_)
  rw [show nrB (nI k) = false from nrB_k hk qk]
  show SW _ _ _ _ _ _ _ (.int 0 :: _) _ _ _
  refine sw_V (M' := MX5_isStopped__) (d' := d - 1) (bc' := 0) (bs' := 0) (ci := 6) (as := [_]) dX5_turn_5 w_1235 ok_X5_isStopped__ (q_isStopped1 (a := false) hM hA (by omega)) hM.ob rfl (by omega) (Nat.le_of_ble_eq_true rfl) (Nat.zero_le _) (Nat.zero_le _) (fun E h' n' _ z => rp_x z) (rp_k (fun p5 p5ρ p5τ p5M p5A p5F => ?_))
  obtain ⟨Gp5, hGp5, eGp5⟩ := p5M.out
  show SW _ _ _ _ _ _ _ (.int 0 :: _) _ _ _
  refine sw_if_eq (pc' := 11) (tgt := 13) rfl dX5_turn_8 (by decide +kernel) (fun c8 => ?_) (fun c8 => ?_)
  · refine sw_aload_n (pc' := 14) rfl dX5_turn_13 rfl ?_
    refine sw_iload_n (pc' := 15) rfl dX5_turn_14 rfl ?_
    refine sw_iconst (pc' := 16) (v := 0) rfl dX5_turn_15 (by decide +kernel) ?_
    refine sw_V (M' := MX5_picture) (d' := d - 1) (bc' := 1) (bs' := 12) (ci := 6) (as := [_, _]) dX5_turn_16 w_1255 ok_X5_picture (q_picture p5M p5A (k := k) (by omega) (hI.1 k (by omega)) (by omega) (by omega) (by omega)) p5M.ob rfl (by omega) (Nat.le_of_ble_eq_true rfl) (by omega) (by omega) (fun E h' n' _ z => na_x z) (na_k (fun p16 p16f p16N p16g p16F => ?_))
    have p16M := p5M.fr (fun i h1 h2 => p16F i (by omega))
    obtain ⟨Gp16, hGp16, eGp16⟩ := p16M.out
    refine sw_astore_n (pc' := 20) (lv' := [(2, _), (0, _), (1, _)]) rfl dX5_turn_19 (by decide +kernel) rfl ?_
    refine sw_iconst (pc' := 21) (v := 0) rfl dX5_turn_20 (by decide +kernel) ?_
    refine sw_istore_n (pc' := 22) (lv' := [(3, _), (2, _), (0, _), (1, _)]) rfl dX5_turn_21 (by decide +kernel) rfl ?_
    refine ql_turn p16M p5A hk hck (a := n) (by omega) p16N p16g (fun p r hr hq hF => ?_) (σ.2.1 k) 0 p16 _ (by omega) (p16M.row hk) (fun i hi => absurd hi (Nat.not_lt_zero _)) (fun _ _ => rfl)
    rw [opTurn, onRw_k hk qk]
    exact pm_k (hq _) (p5A.shU (fun j hj => (hr j hj).trans (rv_at j hj))) ((p5F.tr (fun i q g => p16F i (by omega)) (Nat.le_refl _)).tr (FrM.of1 hF) (Nat.le_refl _)) (Nat.le_succ _)
  · exact absurd c8 (by decide +kernel)
theorem ql_rotate {h : AH} {d bc bs N : Nat} {ρ : Nat → Nat → Int32} {τ : Nat → Int32} {σ : CS} {th : Int32} {x : Int32} {Post : ARes → AH → Nat → Prop} (hM : MM h ρ τ σ th) (hA : AG ρ τ σ) {k : Nat} (hk : k < 11) (hc : σ.2.1 k ≤ 12) {a : Nat} {g : Nat → Int32} (ha : 158 ≤ a) (hB : h a = .inl (0, σ.2.1 k, .inl g)) (hg : ∀ j, j < σ.2.1 k → g j = σ.1 k j) {y : Nat} (hy0 : 0 < σ.2.1 k → y < σ.2.1 k) (hrot : ∀ j, j < σ.2.1 k → nI j + x - (nI j + x) / nI (σ.2.1 k) * nI (σ.2.1 k) + nI (σ.2.1 k) - (nI j + x - (nI j + x) / nI (σ.2.1 k) * nI (σ.2.1 k) + nI (σ.2.1 k)) / nI (σ.2.1 k) * nI (σ.2.1 k) = nI (wrN y (σ.2.1 k) j)) (fq : ∀ (h' : AH) (r : Nat → Int32), (∀ i, i < σ.2.1 k → r (wrN y (σ.2.1 k) i) = σ.1 k i) → (∀ f, MM h' (up ρ k r) τ (sU σ k f (σ.2.1 k) (σ.2.2.1 k) (σ.2.2.2.1 k + 1)) th) → (∀ i, i < 135 ∨ 158 ≤ i → h' i = h i) → Post (.inl (some (.int (nI (σ.2.1 k))))) h' N) (m : Nat) : ∀ (j : Nat) (q : AH) (r : Nat → Int32), j + m = σ.2.1 k → q (137 + k) = .inl (0, 12, .inl r) → (∀ i, i < j → r (wrN y (σ.2.1 k) i) = σ.1 k i) → (∀ i, i ≠ 137 + k → q i = h i) → SW SR0 MX5_rotate d bc bs 39 [(4, .int (nI j)), (3, .ref a), (0, .ref 135), (1, .int (nI k)), (2, .int x)] [] q N Post := by
  obtain ⟨G0, hG0, eG0⟩ := hM.out
  induction m with
  | zero =>
    intro j q r hj hr hf hF
    have hjc : j = σ.2.1 k := by omega
    subst hjc
    refine sw_iload (pc' := 41) rfl dX5_rotate_39 rfl ?_
    refine sw_aload_n (pc' := 42) rfl dX5_rotate_41 rfl ?_
    refine sw_alen (pc' := 43) rfl dX5_rotate_42 ((hF a (by omega)).trans hB) (by decide +kernel) (Or.inl (by show 100 ≤ _; omega)) ?_
    refine sw_icmp_ge (pc' := 46) (tgt := 76) rfl dX5_rotate_43 (by decide +kernel) (fun c43 => ?_) (fun c43 => ?_)
    · refine sw_aload_n (pc' := 77) rfl dX5_rotate_76 rfl ?_
      refine sw_getf (ci := 6) (k := 12) (pc' := 80) rfl dX5_rotate_77 (by decide +kernel) w_1125 ((hF 135 (by omega)).trans hM.ob) rfl ?_
      refine sw_iload_n (pc' := 81) rfl dX5_rotate_80 rfl ?_
      refine sw_dup2 (pc' := 82) rfl dX5_rotate_81 rfl rfl ?_
      refine sw_iald (j := k) (pc' := 83) rfl dX5_rotate_82 ((hF 156 (by omega)).trans hM.tu) rfl (by omega) (by decide +kernel) ?_
      refine sw_iconst (pc' := 84) (v := 1) rfl dX5_rotate_83 (by decide +kernel) ?_
      refine sw_iadd (pc' := 85) rfl dX5_rotate_84 ?_
      refine sw_iast (j := k) (pc' := 86) rfl dX5_rotate_85 ((hF 156 (by omega)).trans hM.tu) (by decide +kernel) rfl (by omega) (by decide +kernel) ?_
      refine sw_nm (fun g1 eg1 => ?_)
      have zg1 := (congrFun eg1 156).trans (up_s (h := q) (i := 156))
      refine sw_aload_n (pc' := 87) rfl dX5_rotate_86 rfl ?_
      refine sw_alen (pc' := 88) rfl dX5_rotate_87 (((congrFun eg1 a).trans (up_n (by omega))).trans ((hF a (by omega)).trans hB)) (by decide +kernel) (Or.inl (by show 100 ≤ _; omega)) ?_
      refine sw_ret (v := some _) ⟨dX5_rotate_88, _, rfl, rfl⟩ ?_
      exact fq g1 r hf (fun f => hM.rwT hk (((congrFun eg1 (137 + k)).trans (up_n (by omega))).trans hr) zg1 (fun i h1 h2 => (congrFun eg1 i).trans ((up_n h2).trans (hF i h1)))) (fun i q => (congrFun eg1 i).trans ((up_n (by omega)).trans (hF i (by omega))))
    · exact absurd (Int32.le_refl _) c43
  | succ m ih =>
    intro j q r hj hr hf hF
    refine sw_iload (pc' := 41) rfl dX5_rotate_39 rfl ?_
    refine sw_aload_n (pc' := 42) rfl dX5_rotate_41 rfl ?_
    refine sw_alen (pc' := 43) rfl dX5_rotate_42 ((hF a (by omega)).trans hB) (by decide +kernel) (Or.inl (by show 100 ≤ _; omega)) ?_
    refine sw_icmp_ge (pc' := 46) (tgt := 76) rfl dX5_rotate_43 (by decide +kernel) (fun c43 => ?_) (fun c43 => ?_)
    · exact absurd c43 (nI_ge (by omega) (by omega))
    · have hy : y < σ.2.1 k := hy0 (by omega)
      refine sw_aload_n (pc' := 47) rfl dX5_rotate_46 rfl ?_
      refine sw_getf (ci := 6) (k := 3) (pc' := 50) rfl dX5_rotate_47 (by decide +kernel) w_1116 ((hF 135 (by omega)).trans hM.ob) rfl ?_
      refine sw_iload_n (pc' := 51) rfl dX5_rotate_50 rfl ?_
      refine sw_aald (j := k) (pc' := 52) rfl dX5_rotate_51 ((hF 136 (by omega)).trans hG0) (by decide +kernel) (by decide +kernel) rfl (by omega) (by decide +kernel) (eG0 k (by omega)) ?_
      refine sw_iload (pc' := 54) rfl dX5_rotate_52 rfl ?_
      refine sw_iload_n (pc' := 55) rfl dX5_rotate_54 rfl ?_
      refine sw_iadd (pc' := 56) rfl dX5_rotate_55 ?_
      refine sw_aload_n (pc' := 57) rfl dX5_rotate_56 rfl ?_
      refine sw_alen (pc' := 58) rfl dX5_rotate_57 ((hF a (by omega)).trans hB) (by decide +kernel) (Or.inl (by show 100 ≤ _; omega)) ?_
      refine sw_irem (pc' := 59) rfl dX5_rotate_58 (fun e => by have := (nI_eq (b := 0) (by omega) (by decide +kernel)).mp e; omega) ?_
      refine sw_aload_n (pc' := 60) rfl dX5_rotate_59 rfl ?_
      refine sw_alen (pc' := 61) rfl dX5_rotate_60 ((hF a (by omega)).trans hB) (by decide +kernel) (Or.inl (by show 100 ≤ _; omega)) ?_
      refine sw_iadd (pc' := 62) rfl dX5_rotate_61 ?_
      refine sw_aload_n (pc' := 63) rfl dX5_rotate_62 rfl ?_
      refine sw_alen (pc' := 64) rfl dX5_rotate_63 ((hF a (by omega)).trans hB) (by decide +kernel) (Or.inl (by show 100 ≤ _; omega)) ?_
      refine sw_irem (pc' := 65) rfl dX5_rotate_64 (fun e => by have := (nI_eq (b := 0) (by omega) (by decide +kernel)).mp e; omega) ?_
      rw [hrot j (by omega)]
      refine sw_aload_n (pc' := 66) rfl dX5_rotate_65 rfl ?_
      refine sw_iload (pc' := 68) rfl dX5_rotate_66 rfl ?_
      refine sw_iald (j := j) (pc' := 69) rfl dX5_rotate_68 ((hF a (by omega)).trans hB) rfl (by omega) (by omega) ?_
      rw [hg j (by omega)]
      refine sw_iast (j := wrN y (σ.2.1 k) j) (pc' := 70) rfl dX5_rotate_69 hr (by show 100 ≤ _; omega) rfl (Nat.lt_of_lt_of_le (wrN_lt hy (by omega)) (by omega)) (by decide +kernel) ?_
      refine sw_nm (fun g2 eg2 => ?_)
      have zg2 := (congrFun eg2 (137 + k)).trans (up_s (h := q) (i := (137 + k)))
      refine sw_iinc (pc' := 73) (lv' := [(4, _), (3, _), (0, _), (1, _), (2, _)]) (v := nI (j + 1)) rfl dX5_rotate_70 rfl (nI_1 j) (by decide +kernel) rfl ?_
      refine sw_goto (tgt := 39) dX5_rotate_73 (by decide +kernel) ?_
      exact ih (j + 1) g2 _ (by omega) zg2 (fun i hi => (Nat.lt_or_ge i j).elim (fun g => (up_n (fun e => by have := wrN_inj hy (by omega) (by omega) e; omega)).trans (hf i g)) (fun g => (show i = j by omega) ▸ up_s)) (fun i h1 => (congrFun eg2 i).trans ((up_n h1).trans (hF i h1)))
theorem q_rotate {h : AH} {d bc bs n : Nat} {σ : CS} {th : Int32} {a x : Int32} (hR : RMo h σ th) (hI : Iv σ) (hn : 159 ≤ n) (hd : 8 ≤ d) (h1 : 1 ≤ bc) (h2 : 12 ≤ bs)  : SM SR0 MX5_rotate d bc bs [.ref 135, .int a, .int x] h n (PM h n (tc sI sA) (opRotate σ a x)) := by
  obtain ⟨ρ, τ, hM, hA⟩ := hR
  obtain ⟨G0, hG0, eG0⟩ := hM.out
  refine sm_of pn_OverwalksModel rfl (Nat.le_of_ble_eq_true rfl) ?_
  rcases idxN 11 (by decide +kernel) a with qk1 | ⟨k, hk, rfl⟩
  · refine sw_aload_n (pc' := 1) rfl dX5_rotate_0 rfl ?_
    refine sw_iload_n (pc' := 2) rfl dX5_rotate_1 rfl ?_
    refine sw_S (M' := MX5_isNoRow) (d' := d - 1) (bc' := 0) (bs' := 0) (as := [_]) dX5_rotate_2 w_1267 ok_X5_isNoRow (q_isNoRow (by omega)) (by omega) (Nat.le_of_ble_eq_true rfl) (Nat.zero_le _) (Nat.zero_le _) (fun E h' n' _ z => det_x z) (det_k ?_)
    rw [show nrB a = true from nrB_x qk1]
    show SW _ _ _ _ _ _ _ (.int 1 :: _) _ _ _
    refine sw_iload_n (pc' := 6) rfl dX5_rotate_5 rfl ?_
    refine sw_bipush (pc' := 8) (v := (-20)) rfl dX5_rotate_6 (by decide +kernel) ?_
    refine sw_bipush (pc' := 10) (v := 20) rfl dX5_rotate_8 (by decide +kernel) ?_
    refine sw_S (M' := MX5_isIn) (d' := d - 1) (bc' := 0) (bs' := 0) (as := [_, _, _]) dX5_rotate_10 w_1168 ok_X5_isIn (q_isIn) (by omega) (Nat.le_of_ble_eq_true rfl) (Nat.zero_le _) (Nat.zero_le _) (fun E h' n' _ z => det_x z) (det_k ?_)
    refine sw_if_ne (pc' := 16) (tgt := 20) rfl dX5_rotate_13 (by decide +kernel) (fun c13 => ?_) (fun c13 => ?_)
    · refine sw_iconst (pc' := 21) (v := 0) rfl dX5_rotate_20 (by decide +kernel) ?_
      refine sw_V (M' := MX5_isStopped_) (d' := d - 1) (bc' := 0) (bs' := 0) (ci := 6) (as := [_, _]) dX5_rotate_21 w_1215 ok_X5_isStopped_ (q_isStopped2 (a := true) (b := false) hM hA (by omega)) hM.ob rfl (by omega) (Nat.le_of_ble_eq_true rfl) (Nat.zero_le _) (Nat.zero_le _) (fun E h' n' _ z => rp_x z) (rp_k (fun p21 p21ρ p21τ p21M p21A p21F => ?_))
      obtain ⟨Gp21, hGp21, eGp21⟩ := p21M.out
      show SW _ _ _ _ _ _ _ (.int 1 :: _) _ _ _
      refine sw_if_eq (pc' := 27) (tgt := 29) rfl dX5_rotate_24 (by decide +kernel) (fun c24 => ?_) (fun c24 => ?_)
      · exact absurd c24 (by decide +kernel)
      · refine sw_iconst (pc' := 28) (v := 0) rfl dX5_rotate_27 (by decide +kernel) ?_
        refine sw_ret (v := some _) ⟨dX5_rotate_28, _, rfl, rfl⟩ ?_
        rw [opRotate, onRw_x qk1]
        exact pm_x tc_1 p21M p21A p21F (Nat.le_refl _)
    · refine sw_iconst (pc' := 17) (v := 1) rfl dX5_rotate_16 (by decide +kernel) ?_
      refine sw_goto (tgt := 21) dX5_rotate_17 (by decide +kernel) ?_
      refine sw_V (M' := MX5_isStopped_) (d' := d - 1) (bc' := 0) (bs' := 0) (ci := 6) (as := [_, _]) dX5_rotate_21 w_1215 ok_X5_isStopped_ (q_isStopped2 (a := true) (b := true) hM hA (by omega)) hM.ob rfl (by omega) (Nat.le_of_ble_eq_true rfl) (Nat.zero_le _) (Nat.zero_le _) (fun E h' n' _ z => rp_x z) (rp_k (fun p21 p21ρ p21τ p21M p21A p21F => ?_))
      obtain ⟨Gp21, hGp21, eGp21⟩ := p21M.out
      show SW _ _ _ _ _ _ _ (.int 1 :: _) _ _ _
      refine sw_if_eq (pc' := 27) (tgt := 29) rfl dX5_rotate_24 (by decide +kernel) (fun c24 => ?_) (fun c24 => ?_)
      · exact absurd c24 (by decide +kernel)
      · refine sw_iconst (pc' := 28) (v := 0) rfl dX5_rotate_27 (by decide +kernel) ?_
        refine sw_ret (v := some _) ⟨dX5_rotate_28, _, rfl, rfl⟩ ?_
        rw [opRotate, onRw_x qk1]
        exact pm_x tc_1 p21M p21A p21F (Nat.le_refl _)
  rcases Classical.em (kP (kdO k) = false) with qk | qk
  · refine sw_aload_n (pc' := 1) rfl dX5_rotate_0 rfl ?_
    refine sw_iload_n (pc' := 2) rfl dX5_rotate_1 rfl ?_
    refine sw_S (M' := MX5_isNoRow) (d' := d - 1) (bc' := 0) (bs' := 0) (as := [_]) dX5_rotate_2 w_1267 ok_X5_isNoRow (q_isNoRow (by omega)) (by omega) (Nat.le_of_ble_eq_true rfl) (Nat.zero_le _) (Nat.zero_le _) (fun E h' n' _ z => det_x z) (det_k ?_)
    rw [show nrB (nI k) = true from nrB_y hk qk]
    show SW _ _ _ _ _ _ _ (.int 1 :: _) _ _ _
    refine sw_iload_n (pc' := 6) rfl dX5_rotate_5 rfl ?_
    refine sw_bipush (pc' := 8) (v := (-20)) rfl dX5_rotate_6 (by decide +kernel) ?_
    refine sw_bipush (pc' := 10) (v := 20) rfl dX5_rotate_8 (by decide +kernel) ?_
    refine sw_S (M' := MX5_isIn) (d' := d - 1) (bc' := 0) (bs' := 0) (as := [_, _, _]) dX5_rotate_10 w_1168 ok_X5_isIn (q_isIn) (by omega) (Nat.le_of_ble_eq_true rfl) (Nat.zero_le _) (Nat.zero_le _) (fun E h' n' _ z => det_x z) (det_k ?_)
    refine sw_if_ne (pc' := 16) (tgt := 20) rfl dX5_rotate_13 (by decide +kernel) (fun c13 => ?_) (fun c13 => ?_)
    · refine sw_iconst (pc' := 21) (v := 0) rfl dX5_rotate_20 (by decide +kernel) ?_
      refine sw_V (M' := MX5_isStopped_) (d' := d - 1) (bc' := 0) (bs' := 0) (ci := 6) (as := [_, _]) dX5_rotate_21 w_1215 ok_X5_isStopped_ (q_isStopped2 (a := true) (b := false) hM hA (by omega)) hM.ob rfl (by omega) (Nat.le_of_ble_eq_true rfl) (Nat.zero_le _) (Nat.zero_le _) (fun E h' n' _ z => rp_x z) (rp_k (fun p21 p21ρ p21τ p21M p21A p21F => ?_))
      obtain ⟨Gp21, hGp21, eGp21⟩ := p21M.out
      show SW _ _ _ _ _ _ _ (.int 1 :: _) _ _ _
      refine sw_if_eq (pc' := 27) (tgt := 29) rfl dX5_rotate_24 (by decide +kernel) (fun c24 => ?_) (fun c24 => ?_)
      · exact absurd c24 (by decide +kernel)
      · refine sw_iconst (pc' := 28) (v := 0) rfl dX5_rotate_27 (by decide +kernel) ?_
        refine sw_ret (v := some _) ⟨dX5_rotate_28, _, rfl, rfl⟩ ?_
        rw [opRotate, onRw_y hk qk]
        exact pm_x tc_1 p21M p21A p21F (Nat.le_refl _)
    · refine sw_iconst (pc' := 17) (v := 1) rfl dX5_rotate_16 (by decide +kernel) ?_
      refine sw_goto (tgt := 21) dX5_rotate_17 (by decide +kernel) ?_
      refine sw_V (M' := MX5_isStopped_) (d' := d - 1) (bc' := 0) (bs' := 0) (ci := 6) (as := [_, _]) dX5_rotate_21 w_1215 ok_X5_isStopped_ (q_isStopped2 (a := true) (b := true) hM hA (by omega)) hM.ob rfl (by omega) (Nat.le_of_ble_eq_true rfl) (Nat.zero_le _) (Nat.zero_le _) (fun E h' n' _ z => rp_x z) (rp_k (fun p21 p21ρ p21τ p21M p21A p21F => ?_))
      obtain ⟨Gp21, hGp21, eGp21⟩ := p21M.out
      show SW _ _ _ _ _ _ _ (.int 1 :: _) _ _ _
      refine sw_if_eq (pc' := 27) (tgt := 29) rfl dX5_rotate_24 (by decide +kernel) (fun c24 => ?_) (fun c24 => ?_)
      · exact absurd c24 (by decide +kernel)
      · refine sw_iconst (pc' := 28) (v := 0) rfl dX5_rotate_27 (by decide +kernel) ?_
        refine sw_ret (v := some _) ⟨dX5_rotate_28, _, rfl, rfl⟩ ?_
        rw [opRotate, onRw_y hk qk]
        exact pm_x tc_1 p21M p21A p21F (Nat.le_refl _)
  have hck := hI.1 k hk
  rcases Classical.em (x < -20 ∨ 20 < x) with qx | qx
  · refine sw_aload_n (pc' := 1) rfl dX5_rotate_0 rfl ?_
    refine sw_iload_n (pc' := 2) rfl dX5_rotate_1 rfl ?_
    refine sw_S (M' := MX5_isNoRow) (d' := d - 1) (bc' := 0) (bs' := 0) (as := [_]) dX5_rotate_2 w_1267 ok_X5_isNoRow (q_isNoRow (by omega)) (by omega) (Nat.le_of_ble_eq_true rfl) (Nat.zero_le _) (Nat.zero_le _) (fun E h' n' _ z => det_x z) (det_k ?_)
    rw [show nrB (nI k) = false from nrB_k hk qk]
    show SW _ _ _ _ _ _ _ (.int 0 :: _) _ _ _
    refine sw_iload_n (pc' := 6) rfl dX5_rotate_5 rfl ?_
    refine sw_bipush (pc' := 8) (v := (-20)) rfl dX5_rotate_6 (by decide +kernel) ?_
    refine sw_bipush (pc' := 10) (v := 20) rfl dX5_rotate_8 (by decide +kernel) ?_
    refine sw_S (M' := MX5_isIn) (d' := d - 1) (bc' := 0) (bs' := 0) (as := [_, _, _]) dX5_rotate_10 w_1168 ok_X5_isIn (q_isIn) (by omega) (Nat.le_of_ble_eq_true rfl) (Nat.zero_le _) (Nat.zero_le _) (fun E h' n' _ z => det_x z) (det_k ?_)
    rw [show inB x (-20) 20 = false from inB_x qx]
    show SW _ _ _ _ _ _ _ (.int 0 :: _) _ _ _
    refine sw_if_ne (pc' := 16) (tgt := 20) rfl dX5_rotate_13 (by decide +kernel) (fun c13 => ?_) (fun c13 => ?_)
    · exact absurd c13 (by decide +kernel)
    · refine sw_iconst (pc' := 17) (v := 1) rfl dX5_rotate_16 (by decide +kernel) ?_
      refine sw_goto (tgt := 21) dX5_rotate_17 (by decide +kernel) ?_
      refine sw_V (M' := MX5_isStopped_) (d' := d - 1) (bc' := 0) (bs' := 0) (ci := 6) (as := [_, _]) dX5_rotate_21 w_1215 ok_X5_isStopped_ (q_isStopped2 (a := false) (b := true) hM hA (by omega)) hM.ob rfl (by omega) (Nat.le_of_ble_eq_true rfl) (Nat.zero_le _) (Nat.zero_le _) (fun E h' n' _ z => rp_x z) (rp_k (fun p21 p21ρ p21τ p21M p21A p21F => ?_))
      obtain ⟨Gp21, hGp21, eGp21⟩ := p21M.out
      show SW _ _ _ _ _ _ _ (.int 1 :: _) _ _ _
      refine sw_if_eq (pc' := 27) (tgt := 29) rfl dX5_rotate_24 (by decide +kernel) (fun c24 => ?_) (fun c24 => ?_)
      · exact absurd c24 (by decide +kernel)
      · refine sw_iconst (pc' := 28) (v := 0) rfl dX5_rotate_27 (by decide +kernel) ?_
        refine sw_ret (v := some _) ⟨dX5_rotate_28, _, rfl, rfl⟩ ?_
        rw [opRotate, onRw_k hk qk, if_pos qx]
        exact pm_x (tc_2 sAI) p21M p21A p21F (Nat.le_refl _)
  refine sw_aload_n (pc' := 1) rfl dX5_rotate_0 rfl ?_
  refine sw_iload_n (pc' := 2) rfl dX5_rotate_1 rfl ?_
  refine sw_S (M' := MX5_isNoRow) (d' := d - 1) (bc' := 0) (bs' := 0) (as := [_]) dX5_rotate_2 w_1267 ok_X5_isNoRow (q_isNoRow (by omega)) (by omega) (Nat.le_of_ble_eq_true rfl) (Nat.zero_le _) (Nat.zero_le _) (fun E h' n' _ z => det_x z) (det_k ?_)
  rw [show nrB (nI k) = false from nrB_k hk qk]
  show SW _ _ _ _ _ _ _ (.int 0 :: _) _ _ _
  refine sw_iload_n (pc' := 6) rfl dX5_rotate_5 rfl ?_
  refine sw_bipush (pc' := 8) (v := (-20)) rfl dX5_rotate_6 (by decide +kernel) ?_
  refine sw_bipush (pc' := 10) (v := 20) rfl dX5_rotate_8 (by decide +kernel) ?_
  refine sw_S (M' := MX5_isIn) (d' := d - 1) (bc' := 0) (bs' := 0) (as := [_, _, _]) dX5_rotate_10 w_1168 ok_X5_isIn (q_isIn) (by omega) (Nat.le_of_ble_eq_true rfl) (Nat.zero_le _) (Nat.zero_le _) (fun E h' n' _ z => det_x z) (det_k ?_)
  rw [show inB x (-20) 20 = true from inB_n qx]
  show SW _ _ _ _ _ _ _ (.int 1 :: _) _ _ _
  refine sw_if_ne (pc' := 16) (tgt := 20) rfl dX5_rotate_13 (by decide +kernel) (fun c13 => ?_) (fun c13 => ?_)
  · refine sw_iconst (pc' := 21) (v := 0) rfl dX5_rotate_20 (by decide +kernel) ?_
    refine sw_V (M' := MX5_isStopped_) (d' := d - 1) (bc' := 0) (bs' := 0) (ci := 6) (as := [_, _]) dX5_rotate_21 w_1215 ok_X5_isStopped_ (q_isStopped2 (a := false) (b := false) hM hA (by omega)) hM.ob rfl (by omega) (Nat.le_of_ble_eq_true rfl) (Nat.zero_le _) (Nat.zero_le _) (fun E h' n' _ z => rp_x z) (rp_k (fun p21 p21ρ p21τ p21M p21A p21F => ?_))
    obtain ⟨Gp21, hGp21, eGp21⟩ := p21M.out
    show SW _ _ _ _ _ _ _ (.int 0 :: _) _ _ _
    refine sw_if_eq (pc' := 27) (tgt := 29) rfl dX5_rotate_24 (by decide +kernel) (fun c24 => ?_) (fun c24 => ?_)
    · refine sw_aload_n (pc' := 30) rfl dX5_rotate_29 rfl ?_
      refine sw_iload_n (pc' := 31) rfl dX5_rotate_30 rfl ?_
      refine sw_iconst (pc' := 32) (v := 0) rfl dX5_rotate_31 (by decide +kernel) ?_
      refine sw_V (M' := MX5_picture) (d' := d - 1) (bc' := 1) (bs' := 12) (ci := 6) (as := [_, _]) dX5_rotate_32 w_1255 ok_X5_picture (q_picture p21M p21A (k := k) (by omega) (hI.1 k (by omega)) (by omega) (by omega) (by omega)) p21M.ob rfl (by omega) (Nat.le_of_ble_eq_true rfl) (by omega) (by omega) (fun E h' n' _ z => na_x z) (na_k (fun p32 p32f p32N p32g p32F => ?_))
      have p32M := p21M.fr (fun i h1 h2 => p32F i (by omega))
      obtain ⟨Gp32, hGp32, eGp32⟩ := p32M.out
      refine sw_astore_n (pc' := 36) (lv' := [(3, _), (0, _), (1, _), (2, _)]) rfl dX5_rotate_35 (by decide +kernel) rfl ?_
      refine sw_iconst (pc' := 37) (v := 0) rfl dX5_rotate_36 (by decide +kernel) ?_
      refine sw_istore (pc' := 39) (lv' := [(4, _), (3, _), (0, _), (1, _), (2, _)]) rfl dX5_rotate_37 (by decide +kernel) rfl ?_
      refine ql_rotate p32M p21A hk hck (a := n) (by omega) p32N p32g (fun h0 => (rot_k qx h0 hck).1) (fun j hj => (rot_k qx (by omega) hck).2 j hj) (fun p r hr hq hF => ?_) (σ.2.1 k) 0 p32 _ (by omega) (p32M.row hk) (fun i hi => absurd hi (Nat.not_lt_zero _)) (fun _ _ => rfl)
      rw [opRotate, onRw_k hk qk, if_neg qx]
      by_cases c0 : σ.2.1 k = 0
      · rw [if_pos c0]
        exact pm_k (hq _) (p21A.shU (fun j hj => absurd hj (by omega))) ((p21F.tr (fun i q g => p32F i (by omega)) (Nat.le_refl _)).tr (FrM.of1 hF) (Nat.le_refl _)) (Nat.le_succ _)
      rw [if_neg c0]
      have hy := (rot_k qx (Nat.pos_of_ne_zero c0) hck).1
      refine pm_k (hq _) (p21A.shU (fun j hj => ?_)) ((p21F.tr (fun i q g => p32F i (by omega)) (Nat.le_refl _)).tr (FrM.of1 hF) (Nat.le_refl _)) (Nat.le_succ _)
      obtain ⟨i, hi, rfl⟩ := wrN_sur hy hj
      exact (hr i hi).trans (mvO_wr hy hi).symm
    · exact absurd c24 (by decide +kernel)
  · exact absurd c13 (by decide +kernel)
theorem q_pour {h : AH} {d bc bs n : Nat} {σ : CS} {th : Int32} {a b : Int32} (hR : RMo h σ th) (hI : Iv σ) (hn : 159 ≤ n) (hd : 8 ≤ d) (h1 : 1 ≤ bc) (h2 : 12 ≤ bs)  : SM SR0 MX5_pour d bc bs [.ref 135, .int a, .int b] h n (PM h n (tc sI sS) (opPour σ a b)) := by
  obtain ⟨ρ, τ, hM, hA⟩ := hR
  obtain ⟨G0, hG0, eG0⟩ := hM.out
  refine sm_of pn_OverwalksModel rfl (Nat.le_of_ble_eq_true rfl) ?_
  rcases idxN 11 (by decide +kernel) a with qk1 | ⟨k, hk, rfl⟩
  · refine sw_aload_n (pc' := 1) rfl dX5_pour_0 rfl ?_
    refine sw_iload_n (pc' := 2) rfl dX5_pour_1 rfl ?_
    refine sw_S (M' := MX5_isNone) (d' := d - 1) (bc' := 0) (bs' := 0) (as := [_]) dX5_pour_2 w_1165 ok_X5_isNone (q_isNone (by omega)) (by omega) (Nat.le_of_ble_eq_true rfl) (Nat.zero_le _) (Nat.zero_le _) (fun E h' n' _ z => det_x z) (det_k ?_)
    rw [show inB a 0 10 = false from no_x (N := 10) (by decide +kernel) qk1]
    show SW _ _ _ _ _ _ _ (.int 1 :: _) _ _ _
    refine sw_if_ne (pc' := 8) (tgt := 15) rfl dX5_pour_5 (by decide +kernel) (fun c5 => ?_) (fun c5 => ?_)
    · refine sw_iconst (pc' := 16) (v := 1) rfl dX5_pour_15 (by decide +kernel) ?_
      refine sw_goto (tgt := 20) dX5_pour_16 (by decide +kernel) ?_
      refine sw_iload_n (pc' := 21) rfl dX5_pour_20 rfl ?_
      refine sw_S (M' := MX5_isNone) (d' := d - 1) (bc' := 0) (bs' := 0) (as := [_]) dX5_pour_21 w_1165 ok_X5_isNone (q_isNone (by omega)) (by omega) (Nat.le_of_ble_eq_true rfl) (Nat.zero_le _) (Nat.zero_le _) (fun E h' n' _ z => det_x z) (det_k ?_)
      rw [show inB a 0 10 = false from no_x (N := 10) (by decide +kernel) qk1]
      show SW _ _ _ _ _ _ _ (.int 1 :: _) _ _ _
      refine sw_if_ne (pc' := 27) (tgt := 56) rfl dX5_pour_24 (by decide +kernel) (fun c24 => ?_) (fun c24 => ?_)
      · refine sw_iconst (pc' := 57) (v := 0) rfl dX5_pour_56 (by decide +kernel) ?_
        refine sw_V (M' := MX5_isStopped_) (d' := d - 1) (bc' := 0) (bs' := 0) (ci := 6) (as := [_, _]) dX5_pour_57 w_1215 ok_X5_isStopped_ (q_isStopped2 (a := true) (b := false) hM hA (by omega)) hM.ob rfl (by omega) (Nat.le_of_ble_eq_true rfl) (Nat.zero_le _) (Nat.zero_le _) (fun E h' n' _ z => rp_x z) (rp_k (fun p57 p57ρ p57τ p57M p57A p57F => ?_))
        obtain ⟨Gp57, hGp57, eGp57⟩ := p57M.out
        show SW _ _ _ _ _ _ _ (.int 1 :: _) _ _ _
        refine sw_if_eq (pc' := 63) (tgt := 65) rfl dX5_pour_60 (by decide +kernel) (fun c60 => ?_) (fun c60 => ?_)
        · exact absurd c60 (by decide +kernel)
        · refine sw_iconst (pc' := 64) (v := 0) rfl dX5_pour_63 (by decide +kernel) ?_
          refine sw_ret (v := some _) ⟨dX5_pour_64, _, rfl, rfl⟩ ?_
          rw [opPour, onSh_x qk1]
          exact pm_x tc_1 p57M p57A p57F (Nat.le_refl _)
      · exact absurd c24 (by decide +kernel)
    · exact absurd c5 (by decide +kernel)
  have hck := hI.1 k hk
  rcases idxN 11 (by decide +kernel) b with qj1 | ⟨j, hj, rfl⟩
  · refine sw_aload_n (pc' := 1) rfl dX5_pour_0 rfl ?_
    refine sw_iload_n (pc' := 2) rfl dX5_pour_1 rfl ?_
    refine sw_S (M' := MX5_isNone) (d' := d - 1) (bc' := 0) (bs' := 0) (as := [_]) dX5_pour_2 w_1165 ok_X5_isNone (q_isNone (by omega)) (by omega) (Nat.le_of_ble_eq_true rfl) (Nat.zero_le _) (Nat.zero_le _) (fun E h' n' _ z => det_x z) (det_k ?_)
    rw [show inB (nI k) 0 10 = true from inB_k (N := 10) (by omega) (by decide +kernel)]
    show SW _ _ _ _ _ _ _ (.int 0 :: _) _ _ _
    refine sw_if_ne (pc' := 8) (tgt := 15) rfl dX5_pour_5 (by decide +kernel) (fun c5 => ?_) (fun c5 => ?_)
    · exact absurd c5 (by decide +kernel)
    · refine sw_iload_n (pc' := 9) rfl dX5_pour_8 rfl ?_
      refine sw_S (M' := MX5_isNone) (d' := d - 1) (bc' := 0) (bs' := 0) (as := [_]) dX5_pour_9 w_1165 ok_X5_isNone (q_isNone (by omega)) (by omega) (Nat.le_of_ble_eq_true rfl) (Nat.zero_le _) (Nat.zero_le _) (fun E h' n' _ z => det_x z) (det_k ?_)
      rw [show inB b 0 10 = false from no_x (N := 10) (by decide +kernel) qj1]
      show SW _ _ _ _ _ _ _ (.int 1 :: _) _ _ _
      refine sw_if_eq (pc' := 15) (tgt := 19) rfl dX5_pour_12 (by decide +kernel) (fun c12 => ?_) (fun c12 => ?_)
      · exact absurd c12 (by decide +kernel)
      · refine sw_iconst (pc' := 16) (v := 1) rfl dX5_pour_15 (by decide +kernel) ?_
        refine sw_goto (tgt := 20) dX5_pour_16 (by decide +kernel) ?_
        refine sw_iload_n (pc' := 21) rfl dX5_pour_20 rfl ?_
        refine sw_S (M' := MX5_isNone) (d' := d - 1) (bc' := 0) (bs' := 0) (as := [_]) dX5_pour_21 w_1165 ok_X5_isNone (q_isNone (by omega)) (by omega) (Nat.le_of_ble_eq_true rfl) (Nat.zero_le _) (Nat.zero_le _) (fun E h' n' _ z => det_x z) (det_k ?_)
        rw [show inB (nI k) 0 10 = true from inB_k (N := 10) (by omega) (by decide +kernel)]
        show SW _ _ _ _ _ _ _ (.int 0 :: _) _ _ _
        refine sw_if_ne (pc' := 27) (tgt := 56) rfl dX5_pour_24 (by decide +kernel) (fun c24 => ?_) (fun c24 => ?_)
        · exact absurd c24 (by decide +kernel)
        · refine sw_iload_n (pc' := 28) rfl dX5_pour_27 rfl ?_
          refine sw_S (M' := MX5_isNone) (d' := d - 1) (bc' := 0) (bs' := 0) (as := [_]) dX5_pour_28 w_1165 ok_X5_isNone (q_isNone (by omega)) (by omega) (Nat.le_of_ble_eq_true rfl) (Nat.zero_le _) (Nat.zero_le _) (fun E h' n' _ z => det_x z) (det_k ?_)
          rw [show inB b 0 10 = false from no_x (N := 10) (by decide +kernel) qj1]
          show SW _ _ _ _ _ _ _ (.int 1 :: _) _ _ _
          refine sw_if_ne (pc' := 34) (tgt := 56) rfl dX5_pour_31 (by decide +kernel) (fun c31 => ?_) (fun c31 => ?_)
          · refine sw_iconst (pc' := 57) (v := 0) rfl dX5_pour_56 (by decide +kernel) ?_
            refine sw_V (M' := MX5_isStopped_) (d' := d - 1) (bc' := 0) (bs' := 0) (ci := 6) (as := [_, _]) dX5_pour_57 w_1215 ok_X5_isStopped_ (q_isStopped2 (a := true) (b := false) hM hA (by omega)) hM.ob rfl (by omega) (Nat.le_of_ble_eq_true rfl) (Nat.zero_le _) (Nat.zero_le _) (fun E h' n' _ z => rp_x z) (rp_k (fun p57 p57ρ p57τ p57M p57A p57F => ?_))
            obtain ⟨Gp57, hGp57, eGp57⟩ := p57M.out
            show SW _ _ _ _ _ _ _ (.int 1 :: _) _ _ _
            refine sw_if_eq (pc' := 63) (tgt := 65) rfl dX5_pour_60 (by decide +kernel) (fun c60 => ?_) (fun c60 => ?_)
            · exact absurd c60 (by decide +kernel)
            · refine sw_iconst (pc' := 64) (v := 0) rfl dX5_pour_63 (by decide +kernel) ?_
              refine sw_ret (v := some _) ⟨dX5_pour_64, _, rfl, rfl⟩ ?_
              rw [opPour, onSh_k hk, onSh_x qj1]
              exact pm_x tc_1 p57M p57A p57F (Nat.le_refl _)
          · exact absurd c31 (by decide +kernel)
  have hcj := hI.1 j hj
  rcases Classical.em (12 < nI (σ.2.1 j) + nI (σ.2.1 k)) with qr | qr
  · have hroom : 12 < σ.2.1 j + σ.2.1 k := (roomS (by omega) (by omega)).mp qr
    refine sw_aload_n (pc' := 1) rfl dX5_pour_0 rfl ?_
    refine sw_iload_n (pc' := 2) rfl dX5_pour_1 rfl ?_
    refine sw_S (M' := MX5_isNone) (d' := d - 1) (bc' := 0) (bs' := 0) (as := [_]) dX5_pour_2 w_1165 ok_X5_isNone (q_isNone (by omega)) (by omega) (Nat.le_of_ble_eq_true rfl) (Nat.zero_le _) (Nat.zero_le _) (fun E h' n' _ z => det_x z) (det_k ?_)
    rw [show inB (nI k) 0 10 = true from inB_k (N := 10) (by omega) (by decide +kernel)]
    show SW _ _ _ _ _ _ _ (.int 0 :: _) _ _ _
    refine sw_if_ne (pc' := 8) (tgt := 15) rfl dX5_pour_5 (by decide +kernel) (fun c5 => ?_) (fun c5 => ?_)
    · exact absurd c5 (by decide +kernel)
    · refine sw_iload_n (pc' := 9) rfl dX5_pour_8 rfl ?_
      refine sw_S (M' := MX5_isNone) (d' := d - 1) (bc' := 0) (bs' := 0) (as := [_]) dX5_pour_9 w_1165 ok_X5_isNone (q_isNone (by omega)) (by omega) (Nat.le_of_ble_eq_true rfl) (Nat.zero_le _) (Nat.zero_le _) (fun E h' n' _ z => det_x z) (det_k ?_)
      rw [show inB (nI j) 0 10 = true from inB_k (N := 10) (by omega) (by decide +kernel)]
      show SW _ _ _ _ _ _ _ (.int 0 :: _) _ _ _
      refine sw_if_eq (pc' := 15) (tgt := 19) rfl dX5_pour_12 (by decide +kernel) (fun c12 => ?_) (fun c12 => ?_)
      · refine sw_iconst (pc' := 20) (v := 0) rfl dX5_pour_19 (by decide +kernel) ?_
        refine sw_iload_n (pc' := 21) rfl dX5_pour_20 rfl ?_
        refine sw_S (M' := MX5_isNone) (d' := d - 1) (bc' := 0) (bs' := 0) (as := [_]) dX5_pour_21 w_1165 ok_X5_isNone (q_isNone (by omega)) (by omega) (Nat.le_of_ble_eq_true rfl) (Nat.zero_le _) (Nat.zero_le _) (fun E h' n' _ z => det_x z) (det_k ?_)
        rw [show inB (nI k) 0 10 = true from inB_k (N := 10) (by omega) (by decide +kernel)]
        show SW _ _ _ _ _ _ _ (.int 0 :: _) _ _ _
        refine sw_if_ne (pc' := 27) (tgt := 56) rfl dX5_pour_24 (by decide +kernel) (fun c24 => ?_) (fun c24 => ?_)
        · exact absurd c24 (by decide +kernel)
        · refine sw_iload_n (pc' := 28) rfl dX5_pour_27 rfl ?_
          refine sw_S (M' := MX5_isNone) (d' := d - 1) (bc' := 0) (bs' := 0) (as := [_]) dX5_pour_28 w_1165 ok_X5_isNone (q_isNone (by omega)) (by omega) (Nat.le_of_ble_eq_true rfl) (Nat.zero_le _) (Nat.zero_le _) (fun E h' n' _ z => det_x z) (det_k ?_)
          rw [show inB (nI j) 0 10 = true from inB_k (N := 10) (by omega) (by decide +kernel)]
          show SW _ _ _ _ _ _ _ (.int 0 :: _) _ _ _
          refine sw_if_ne (pc' := 34) (tgt := 56) rfl dX5_pour_31 (by decide +kernel) (fun c31 => ?_) (fun c31 => ?_)
          · exact absurd c31 (by decide +kernel)
          · refine sw_aload_n (pc' := 35) rfl dX5_pour_34 rfl ?_
            refine sw_getf (ci := 6) (k := 4) (pc' := 38) rfl dX5_pour_35 (by decide +kernel) w_1117 hM.ob rfl ?_
            refine sw_iload_n (pc' := 39) rfl dX5_pour_38 rfl ?_
            refine sw_iald (j := k) (pc' := 40) rfl dX5_pour_39 hM.sz rfl (by omega) (by decide +kernel) ?_
            refine sw_aload_n (pc' := 41) rfl dX5_pour_40 rfl ?_
            refine sw_getf (ci := 6) (k := 4) (pc' := 44) rfl dX5_pour_41 (by decide +kernel) w_1117 hM.ob rfl ?_
            refine sw_iload_n (pc' := 45) rfl dX5_pour_44 rfl ?_
            refine sw_iald (j := j) (pc' := 46) rfl dX5_pour_45 hM.sz rfl (by omega) (by decide +kernel) ?_
            refine sw_iadd (pc' := 47) rfl dX5_pour_46 ?_
            rw [show (nI (σ.2.1 k)) + (nI (σ.2.1 j)) = nI (σ.2.1 k + σ.2.1 j) from nI_add _ _]
            refine sw_bipush (pc' := 49) (v := 12) rfl dX5_pour_47 (by decide +kernel) ?_
            refine sw_icmp_le (pc' := 52) (tgt := 56) rfl dX5_pour_49 (by decide +kernel) (fun c49 => ?_) (fun c49 => ?_)
            · exact absurd ((le12 (by omega)).mp c49) (by omega)
            · refine sw_iconst (pc' := 53) (v := 1) rfl dX5_pour_52 (by decide +kernel) ?_
              refine sw_goto (tgt := 57) dX5_pour_53 (by decide +kernel) ?_
              refine sw_V (M' := MX5_isStopped_) (d' := d - 1) (bc' := 0) (bs' := 0) (ci := 6) (as := [_, _]) dX5_pour_57 w_1215 ok_X5_isStopped_ (q_isStopped2 (a := false) (b := true) hM hA (by omega)) hM.ob rfl (by omega) (Nat.le_of_ble_eq_true rfl) (Nat.zero_le _) (Nat.zero_le _) (fun E h' n' _ z => rp_x z) (rp_k (fun p57 p57ρ p57τ p57M p57A p57F => ?_))
              obtain ⟨Gp57, hGp57, eGp57⟩ := p57M.out
              show SW _ _ _ _ _ _ _ (.int 1 :: _) _ _ _
              refine sw_if_eq (pc' := 63) (tgt := 65) rfl dX5_pour_60 (by decide +kernel) (fun c60 => ?_) (fun c60 => ?_)
              · exact absurd c60 (by decide +kernel)
              · refine sw_iconst (pc' := 64) (v := 0) rfl dX5_pour_63 (by decide +kernel) ?_
                refine sw_ret (v := some _) ⟨dX5_pour_64, _, rfl, rfl⟩ ?_
                rw [opPour, onSh_k hk, onSh_k hj, if_pos qr]
                exact pm_x (tc_2 sSI) p57M p57A p57F (Nat.le_refl _)
      · exact absurd c12 (by decide +kernel)
  have hroom : σ.2.1 j + σ.2.1 k ≤ 12 := Nat.le_of_not_lt (fun g => qr ((roomS (by omega) (by omega)).mpr g))
  refine sw_aload_n (pc' := 1) rfl dX5_pour_0 rfl ?_
  refine sw_iload_n (pc' := 2) rfl dX5_pour_1 rfl ?_
  refine sw_S (M' := MX5_isNone) (d' := d - 1) (bc' := 0) (bs' := 0) (as := [_]) dX5_pour_2 w_1165 ok_X5_isNone (q_isNone (by omega)) (by omega) (Nat.le_of_ble_eq_true rfl) (Nat.zero_le _) (Nat.zero_le _) (fun E h' n' _ z => det_x z) (det_k ?_)
  rw [show inB (nI k) 0 10 = true from inB_k (N := 10) (by omega) (by decide +kernel)]
  show SW _ _ _ _ _ _ _ (.int 0 :: _) _ _ _
  refine sw_if_ne (pc' := 8) (tgt := 15) rfl dX5_pour_5 (by decide +kernel) (fun c5 => ?_) (fun c5 => ?_)
  · exact absurd c5 (by decide +kernel)
  · refine sw_iload_n (pc' := 9) rfl dX5_pour_8 rfl ?_
    refine sw_S (M' := MX5_isNone) (d' := d - 1) (bc' := 0) (bs' := 0) (as := [_]) dX5_pour_9 w_1165 ok_X5_isNone (q_isNone (by omega)) (by omega) (Nat.le_of_ble_eq_true rfl) (Nat.zero_le _) (Nat.zero_le _) (fun E h' n' _ z => det_x z) (det_k ?_)
    rw [show inB (nI j) 0 10 = true from inB_k (N := 10) (by omega) (by decide +kernel)]
    show SW _ _ _ _ _ _ _ (.int 0 :: _) _ _ _
    refine sw_if_eq (pc' := 15) (tgt := 19) rfl dX5_pour_12 (by decide +kernel) (fun c12 => ?_) (fun c12 => ?_)
    · refine sw_iconst (pc' := 20) (v := 0) rfl dX5_pour_19 (by decide +kernel) ?_
      refine sw_iload_n (pc' := 21) rfl dX5_pour_20 rfl ?_
      refine sw_S (M' := MX5_isNone) (d' := d - 1) (bc' := 0) (bs' := 0) (as := [_]) dX5_pour_21 w_1165 ok_X5_isNone (q_isNone (by omega)) (by omega) (Nat.le_of_ble_eq_true rfl) (Nat.zero_le _) (Nat.zero_le _) (fun E h' n' _ z => det_x z) (det_k ?_)
      rw [show inB (nI k) 0 10 = true from inB_k (N := 10) (by omega) (by decide +kernel)]
      show SW _ _ _ _ _ _ _ (.int 0 :: _) _ _ _
      refine sw_if_ne (pc' := 27) (tgt := 56) rfl dX5_pour_24 (by decide +kernel) (fun c24 => ?_) (fun c24 => ?_)
      · exact absurd c24 (by decide +kernel)
      · refine sw_iload_n (pc' := 28) rfl dX5_pour_27 rfl ?_
        refine sw_S (M' := MX5_isNone) (d' := d - 1) (bc' := 0) (bs' := 0) (as := [_]) dX5_pour_28 w_1165 ok_X5_isNone (q_isNone (by omega)) (by omega) (Nat.le_of_ble_eq_true rfl) (Nat.zero_le _) (Nat.zero_le _) (fun E h' n' _ z => det_x z) (det_k ?_)
        rw [show inB (nI j) 0 10 = true from inB_k (N := 10) (by omega) (by decide +kernel)]
        show SW _ _ _ _ _ _ _ (.int 0 :: _) _ _ _
        refine sw_if_ne (pc' := 34) (tgt := 56) rfl dX5_pour_31 (by decide +kernel) (fun c31 => ?_) (fun c31 => ?_)
        · exact absurd c31 (by decide +kernel)
        · refine sw_aload_n (pc' := 35) rfl dX5_pour_34 rfl ?_
          refine sw_getf (ci := 6) (k := 4) (pc' := 38) rfl dX5_pour_35 (by decide +kernel) w_1117 hM.ob rfl ?_
          refine sw_iload_n (pc' := 39) rfl dX5_pour_38 rfl ?_
          refine sw_iald (j := k) (pc' := 40) rfl dX5_pour_39 hM.sz rfl (by omega) (by decide +kernel) ?_
          refine sw_aload_n (pc' := 41) rfl dX5_pour_40 rfl ?_
          refine sw_getf (ci := 6) (k := 4) (pc' := 44) rfl dX5_pour_41 (by decide +kernel) w_1117 hM.ob rfl ?_
          refine sw_iload_n (pc' := 45) rfl dX5_pour_44 rfl ?_
          refine sw_iald (j := j) (pc' := 46) rfl dX5_pour_45 hM.sz rfl (by omega) (by decide +kernel) ?_
          refine sw_iadd (pc' := 47) rfl dX5_pour_46 ?_
          rw [show (nI (σ.2.1 k)) + (nI (σ.2.1 j)) = nI (σ.2.1 k + σ.2.1 j) from nI_add _ _]
          refine sw_bipush (pc' := 49) (v := 12) rfl dX5_pour_47 (by decide +kernel) ?_
          refine sw_icmp_le (pc' := 52) (tgt := 56) rfl dX5_pour_49 (by decide +kernel) (fun c49 => ?_) (fun c49 => ?_)
          · refine sw_iconst (pc' := 57) (v := 0) rfl dX5_pour_56 (by decide +kernel) ?_
            refine sw_V (M' := MX5_isStopped_) (d' := d - 1) (bc' := 0) (bs' := 0) (ci := 6) (as := [_, _]) dX5_pour_57 w_1215 ok_X5_isStopped_ (q_isStopped2 (a := false) (b := false) hM hA (by omega)) hM.ob rfl (by omega) (Nat.le_of_ble_eq_true rfl) (Nat.zero_le _) (Nat.zero_le _) (fun E h' n' _ z => rp_x z) (rp_k (fun p57 p57ρ p57τ p57M p57A p57F => ?_))
            obtain ⟨Gp57, hGp57, eGp57⟩ := p57M.out
            show SW _ _ _ _ _ _ _ (.int 0 :: _) _ _ _
            refine sw_if_eq (pc' := 63) (tgt := 65) rfl dX5_pour_60 (by decide +kernel) (fun c60 => ?_) (fun c60 => ?_)
            · refine sw_iload_n (pc' := 66) rfl dX5_pour_65 rfl ?_
              refine sw_S (M' := MX5_isTable) (d' := d - 1) (bc' := 0) (bs' := 0) (as := [_]) dX5_pour_66 w_1178 ok_X5_isTable (q_isTable) (by omega) (Nat.le_of_ble_eq_true rfl) (Nat.zero_le _) (Nat.zero_le _) (fun E h' n' _ z => det_x z) (det_k ?_)
              rw [tb_k (k := j) (by omega)]
              refine sw_if_ne (pc' := 72) (tgt := 87) rfl dX5_pour_69 (by decide +kernel) (fun c69 => ?_) (fun c69 => ?_)
              · refine sw_aload_n (pc' := 88) rfl dX5_pour_87 rfl ?_
                refine sw_V (M' := MX5_no) (d' := d - 1) (bc' := 0) (bs' := 0) (ci := 6) (as := []) dX5_pour_88 w_1184 ok_X5_no (q_no p57M p57A) p57M.ob rfl (by omega) (Nat.le_of_ble_eq_true rfl) (Nat.zero_le _) (Nat.zero_le _) (fun E h' n' _ z => rp_x z) (rp_k (fun p88 p88ρ p88τ p88M p88A p88F => ?_))
                obtain ⟨Gp88, hGp88, eGp88⟩ := p88M.out
                refine sw_ret (v := some _) ⟨dX5_pour_91, _, rfl, rfl⟩ ?_
                rw [opPour, onSh_k hk, onSh_k hj, if_neg qr, if_pos (cpB_1 (of_decide_eq_true (bI_1 c69)))]
                exact pm_k p88M p88A (p57F.tr p88F (Nat.le_refl _)) (Nat.le_refl _)
              · refine sw_aload_n (pc' := 73) rfl dX5_pour_72 rfl ?_
                refine sw_iload_n (pc' := 74) rfl dX5_pour_73 rfl ?_
                refine sw_V (M' := MX5_hasNothing) (d' := d - 1) (bc' := 0) (bs' := 0) (ci := 6) (as := [_]) dX5_pour_74 w_1251 ok_X5_hasNothing (q_hasNothing p57M p57A (k := k) (by omega) (hI.1 k (by omega)) (by omega)) p57M.ob rfl (by omega) (Nat.le_of_ble_eq_true rfl) (Nat.zero_le _) (Nat.zero_le _) (fun E h' n' _ z => det_x z) (det_k ?_)
                refine sw_if_eq (pc' := 80) (tgt := 92) rfl dX5_pour_77 (by decide +kernel) (fun c77 => ?_) (fun c77 => ?_)
                · refine sw_aload_n (pc' := 93) rfl dX5_pour_92 rfl ?_
                  refine sw_iload_n (pc' := 94) rfl dX5_pour_93 rfl ?_
                  refine sw_iconst (pc' := 95) (v := 0) rfl dX5_pour_94 (by decide +kernel) ?_
                  refine sw_V (M' := MX5_picture) (d' := d - 1) (bc' := 1) (bs' := 12) (ci := 6) (as := [_, _]) dX5_pour_95 w_1255 ok_X5_picture (q_picture p57M p57A (k := k) (by omega) (hI.1 k (by omega)) (by omega) (by omega) (by omega)) p57M.ob rfl (by omega) (Nat.le_of_ble_eq_true rfl) (by omega) (by omega) (fun E h' n' _ z => na_x z) (na_k (fun p95 p95f p95N p95g p95F => ?_))
                  have p95M := p57M.fr (fun i h1 h2 => p95F i (by omega))
                  obtain ⟨Gp95, hGp95, eGp95⟩ := p95M.out
                  refine sw_astore_n (pc' := 99) (lv' := [(3, _), (0, _), (1, _), (2, _)]) rfl dX5_pour_98 (by decide +kernel) rfl ?_
                  refine sw_aload_n (pc' := 100) rfl dX5_pour_99 rfl ?_
                  refine sw_iload_n (pc' := 101) rfl dX5_pour_100 rfl ?_
                  refine sw_aload_n (pc' := 102) rfl dX5_pour_101 rfl ?_
                  refine sw_aload_n (pc' := 103) rfl dX5_pour_102 rfl ?_
                  refine sw_alen (pc' := 104) rfl dX5_pour_103 p95N (by decide +kernel) (Or.inl (by show 100 ≤ _; omega)) ?_
                  have eP104 : pbM k j 0 (σ.2.1 k) false σ = caM j p95f 0 (σ.2.1 k) false σ := (pb_ca (s := k) (j := j) (f := σ.1 k) (c := σ.2.1 k) (by omega) (by omega) 0 (σ.2.1 k) 0 false σ (fun _ _ => rfl) (Nat.le_refl _) (show σ.2.1 k ≤ 12 by omega) (by omega) (by omega)).trans (caM_cg (fun i _ hi => (congrArg (σ.1 k) (Nat.zero_add i)).trans (p95g i (by omega)).symm))
                  refine sw_V (M' := MX5_comeAll) (d' := d - 1) (bc' := 0) (bs' := 0) (ci := 6) (as := [_, _, _]) dX5_pour_104 w_1207 ok_X5_comeAll (q_comeAll p95M p57A (k := j) (m9 := σ.2.1 k) (by omega) (fun e => e ▸ hI.2.2.2.1) (by omega) (by omega) (by omega) p95N (by omega) (Nat.le_refl _) (by omega)) p95M.ob rfl (by omega) (Nat.le_of_ble_eq_true rfl) (Nat.zero_le _) (Nat.zero_le _) (fun E h' n' _ z => rp_x z) (rp_k (fun p104 p104ρ p104τ p104M p104A p104F => ?_))
                  obtain ⟨Gp104, hGp104, eGp104⟩ := p104M.out
                  refine sw_ret (v := some _) ⟨dX5_pour_107, _, rfl, rfl⟩ ?_
                  rw [opPour, onSh_k hk, onSh_k hj, if_neg qr, if_neg (fun e => Bool.noConfusion (e.symm.trans (cpB_f (of_decide_eq_false (bI_0 c69)) (nnB_f1 (bI_0 c77))))), eP104]
                  exact pm_k p104M p104A ((p57F.tr (fun i q g => p95F i (by omega)) (Nat.le_refl _)).tr p104F (Nat.le_succ _)) (Nat.le_succ _)
                · refine sw_iload_n (pc' := 81) rfl dX5_pour_80 rfl ?_
                  refine sw_S (M' := MX5_takesNothing) (d' := d - 1) (bc' := 0) (bs' := 0) (as := [_]) dX5_pour_81 w_1181 ok_X5_takesNothing (q_takesNothing (by omega)) (by omega) (Nat.le_of_ble_eq_true rfl) (Nat.zero_le _) (Nat.zero_le _) (fun E h' n' _ z => det_x z) (det_k ?_)
                  rw [tn_k (k := j) (by omega)]
                  refine sw_if_ne (pc' := 87) (tgt := 92) rfl dX5_pour_84 (by decide +kernel) (fun c84 => ?_) (fun c84 => ?_)
                  · refine sw_aload_n (pc' := 93) rfl dX5_pour_92 rfl ?_
                    refine sw_iload_n (pc' := 94) rfl dX5_pour_93 rfl ?_
                    refine sw_iconst (pc' := 95) (v := 0) rfl dX5_pour_94 (by decide +kernel) ?_
                    refine sw_V (M' := MX5_picture) (d' := d - 1) (bc' := 1) (bs' := 12) (ci := 6) (as := [_, _]) dX5_pour_95 w_1255 ok_X5_picture (q_picture p57M p57A (k := k) (by omega) (hI.1 k (by omega)) (by omega) (by omega) (by omega)) p57M.ob rfl (by omega) (Nat.le_of_ble_eq_true rfl) (by omega) (by omega) (fun E h' n' _ z => na_x z) (na_k (fun p95 p95f p95N p95g p95F => ?_))
                    have p95M := p57M.fr (fun i h1 h2 => p95F i (by omega))
                    obtain ⟨Gp95, hGp95, eGp95⟩ := p95M.out
                    refine sw_astore_n (pc' := 99) (lv' := [(3, _), (0, _), (1, _), (2, _)]) rfl dX5_pour_98 (by decide +kernel) rfl ?_
                    refine sw_aload_n (pc' := 100) rfl dX5_pour_99 rfl ?_
                    refine sw_iload_n (pc' := 101) rfl dX5_pour_100 rfl ?_
                    refine sw_aload_n (pc' := 102) rfl dX5_pour_101 rfl ?_
                    refine sw_aload_n (pc' := 103) rfl dX5_pour_102 rfl ?_
                    refine sw_alen (pc' := 104) rfl dX5_pour_103 p95N (by decide +kernel) (Or.inl (by show 100 ≤ _; omega)) ?_
                    have eP104 : pbM k j 0 (σ.2.1 k) false σ = caM j p95f 0 (σ.2.1 k) false σ := (pb_ca (s := k) (j := j) (f := σ.1 k) (c := σ.2.1 k) (by omega) (by omega) 0 (σ.2.1 k) 0 false σ (fun _ _ => rfl) (Nat.le_refl _) (show σ.2.1 k ≤ 12 by omega) (by omega) (by omega)).trans (caM_cg (fun i _ hi => (congrArg (σ.1 k) (Nat.zero_add i)).trans (p95g i (by omega)).symm))
                    refine sw_V (M' := MX5_comeAll) (d' := d - 1) (bc' := 0) (bs' := 0) (ci := 6) (as := [_, _, _]) dX5_pour_104 w_1207 ok_X5_comeAll (q_comeAll p95M p57A (k := j) (m9 := σ.2.1 k) (by omega) (fun e => e ▸ hI.2.2.2.1) (by omega) (by omega) (by omega) p95N (by omega) (Nat.le_refl _) (by omega)) p95M.ob rfl (by omega) (Nat.le_of_ble_eq_true rfl) (Nat.zero_le _) (Nat.zero_le _) (fun E h' n' _ z => rp_x z) (rp_k (fun p104 p104ρ p104τ p104M p104A p104F => ?_))
                    obtain ⟨Gp104, hGp104, eGp104⟩ := p104M.out
                    refine sw_ret (v := some _) ⟨dX5_pour_107, _, rfl, rfl⟩ ?_
                    rw [opPour, onSh_k hk, onSh_k hj, if_neg qr, if_neg (fun e => Bool.noConfusion (e.symm.trans (cpB_f (of_decide_eq_false (bI_0 c69)) (nnB_f2 (bI_1 c84))))), eP104]
                    exact pm_k p104M p104A ((p57F.tr (fun i q g => p95F i (by omega)) (Nat.le_refl _)).tr p104F (Nat.le_succ _)) (Nat.le_succ _)
                  · refine sw_aload_n (pc' := 88) rfl dX5_pour_87 rfl ?_
                    refine sw_V (M' := MX5_no) (d' := d - 1) (bc' := 0) (bs' := 0) (ci := 6) (as := []) dX5_pour_88 w_1184 ok_X5_no (q_no p57M p57A) p57M.ob rfl (by omega) (Nat.le_of_ble_eq_true rfl) (Nat.zero_le _) (Nat.zero_le _) (fun E h' n' _ z => rp_x z) (rp_k (fun p88 p88ρ p88τ p88M p88A p88F => ?_))
                    obtain ⟨Gp88, hGp88, eGp88⟩ := p88M.out
                    refine sw_ret (v := some _) ⟨dX5_pour_91, _, rfl, rfl⟩ ?_
                    rw [opPour, onSh_k hk, onSh_k hj, if_neg qr, if_pos (cpB_2 (nnB_t (bI_1 c77) (bI_0 c84)))]
                    exact pm_k p88M p88A (p57F.tr p88F (Nat.le_refl _)) (Nat.le_refl _)
            · exact absurd c60 (by decide +kernel)
          · exact absurd ((le12 (by omega)).mpr (by omega)) c49
    · exact absurd c12 (by decide +kernel)
theorem q_pourRest {h : AH} {d bc bs n : Nat} {σ : CS} {th : Int32} {a b : Int32} (hR : RMo h σ th) (hI : Iv σ) (hn : 159 ≤ n) (hd : 8 ≤ d) (h1 : 1 ≤ bc) (h2 : 12 ≤ bs)  : SM SR0 MX5_pourRest d bc bs [.ref 135, .int a, .int b] h n (PM h n (tc sI sS) (opPourRest σ a b)) := by
  obtain ⟨ρ, τ, hM, hA⟩ := hR
  obtain ⟨G0, hG0, eG0⟩ := hM.out
  refine sm_of pn_OverwalksModel rfl (Nat.le_of_ble_eq_true rfl) ?_
  rcases idxN 6 (by decide +kernel) a with qk1 | ⟨k, hk, rfl⟩
  · refine sw_iload_n (pc' := 1) rfl dX5_pourRest_0 rfl ?_
    refine sw_S (M' := MX5_isNoWalk) (d' := d - 1) (bc' := 0) (bs' := 0) (as := [_]) dX5_pourRest_1 w_1306 ok_X5_isNoWalk (q_isNoWalk (by omega)) (by omega) (Nat.le_of_ble_eq_true rfl) (Nat.zero_le _) (Nat.zero_le _) (fun E h' n' _ z => det_x z) (det_k ?_)
    rw [show inB a 0 5 = false from no_x (N := 5) (by decide +kernel) qk1]
    show SW _ _ _ _ _ _ _ (.int 1 :: _) _ _ _
    refine sw_if_ne (pc' := 7) (tgt := 14) rfl dX5_pourRest_4 (by decide +kernel) (fun c4 => ?_) (fun c4 => ?_)
    · refine sw_iconst (pc' := 15) (v := 1) rfl dX5_pourRest_14 (by decide +kernel) ?_
      refine sw_goto (tgt := 19) dX5_pourRest_15 (by decide +kernel) ?_
      refine sw_istore_n (pc' := 20) (lv' := [(3, _), (0, _), (1, _), (2, _)]) rfl dX5_pourRest_19 (by decide +kernel) rfl ?_
      refine sw_aload_n (pc' := 21) rfl dX5_pourRest_20 rfl ?_
      refine sw_iload_n (pc' := 22) rfl dX5_pourRest_21 rfl ?_
      refine sw_iload_n (pc' := 23) rfl dX5_pourRest_22 rfl ?_
      refine sw_if_ne (pc' := 26) (tgt := 61) rfl dX5_pourRest_23 (by decide +kernel) (fun c23 => ?_) (fun c23 => ?_)
      · refine sw_iconst (pc' := 62) (v := 0) rfl dX5_pourRest_61 (by decide +kernel) ?_
        refine sw_V (M' := MX5_isStopped_) (d' := d - 1) (bc' := 0) (bs' := 0) (ci := 6) (as := [_, _]) dX5_pourRest_62 w_1215 ok_X5_isStopped_ (q_isStopped2 (a := true) (b := false) hM hA (by omega)) hM.ob rfl (by omega) (Nat.le_of_ble_eq_true rfl) (Nat.zero_le _) (Nat.zero_le _) (fun E h' n' _ z => rp_x z) (rp_k (fun p62 p62ρ p62τ p62M p62A p62F => ?_))
        obtain ⟨Gp62, hGp62, eGp62⟩ := p62M.out
        show SW _ _ _ _ _ _ _ (.int 1 :: _) _ _ _
        refine sw_if_eq (pc' := 68) (tgt := 70) rfl dX5_pourRest_65 (by decide +kernel) (fun c65 => ?_) (fun c65 => ?_)
        · exact absurd c65 (by decide +kernel)
        · refine sw_iconst (pc' := 69) (v := 0) rfl dX5_pourRest_68 (by decide +kernel) ?_
          refine sw_ret (v := some _) ⟨dX5_pourRest_69, _, rfl, rfl⟩ ?_
          rw [opPourRest, onWk_x qk1]
          exact pm_x tc_1 p62M p62A p62F (Nat.le_refl _)
      · exact absurd c23 (by decide +kernel)
    · exact absurd c4 (by decide +kernel)
  have ovk := hI.2.2.2.2.2.2.1 k hk
  have hcwk := hI.1 _ ovk
  rcases idxN 11 (by decide +kernel) b with qj1 | ⟨j, hj, rfl⟩
  · refine sw_iload_n (pc' := 1) rfl dX5_pourRest_0 rfl ?_
    refine sw_S (M' := MX5_isNoWalk) (d' := d - 1) (bc' := 0) (bs' := 0) (as := [_]) dX5_pourRest_1 w_1306 ok_X5_isNoWalk (q_isNoWalk (by omega)) (by omega) (Nat.le_of_ble_eq_true rfl) (Nat.zero_le _) (Nat.zero_le _) (fun E h' n' _ z => det_x z) (det_k ?_)
    rw [show inB (nI k) 0 5 = true from inB_k (N := 5) (by omega) (by decide +kernel)]
    show SW _ _ _ _ _ _ _ (.int 0 :: _) _ _ _
    refine sw_if_ne (pc' := 7) (tgt := 14) rfl dX5_pourRest_4 (by decide +kernel) (fun c4 => ?_) (fun c4 => ?_)
    · exact absurd c4 (by decide +kernel)
    · refine sw_iload_n (pc' := 8) rfl dX5_pourRest_7 rfl ?_
      refine sw_S (M' := MX5_isNone) (d' := d - 1) (bc' := 0) (bs' := 0) (as := [_]) dX5_pourRest_8 w_1165 ok_X5_isNone (q_isNone (by omega)) (by omega) (Nat.le_of_ble_eq_true rfl) (Nat.zero_le _) (Nat.zero_le _) (fun E h' n' _ z => det_x z) (det_k ?_)
      rw [show inB b 0 10 = false from no_x (N := 10) (by decide +kernel) qj1]
      show SW _ _ _ _ _ _ _ (.int 1 :: _) _ _ _
      refine sw_if_eq (pc' := 14) (tgt := 18) rfl dX5_pourRest_11 (by decide +kernel) (fun c11 => ?_) (fun c11 => ?_)
      · exact absurd c11 (by decide +kernel)
      · refine sw_iconst (pc' := 15) (v := 1) rfl dX5_pourRest_14 (by decide +kernel) ?_
        refine sw_goto (tgt := 19) dX5_pourRest_15 (by decide +kernel) ?_
        refine sw_istore_n (pc' := 20) (lv' := [(3, _), (0, _), (1, _), (2, _)]) rfl dX5_pourRest_19 (by decide +kernel) rfl ?_
        refine sw_aload_n (pc' := 21) rfl dX5_pourRest_20 rfl ?_
        refine sw_iload_n (pc' := 22) rfl dX5_pourRest_21 rfl ?_
        refine sw_iload_n (pc' := 23) rfl dX5_pourRest_22 rfl ?_
        refine sw_if_ne (pc' := 26) (tgt := 61) rfl dX5_pourRest_23 (by decide +kernel) (fun c23 => ?_) (fun c23 => ?_)
        · refine sw_iconst (pc' := 62) (v := 0) rfl dX5_pourRest_61 (by decide +kernel) ?_
          refine sw_V (M' := MX5_isStopped_) (d' := d - 1) (bc' := 0) (bs' := 0) (ci := 6) (as := [_, _]) dX5_pourRest_62 w_1215 ok_X5_isStopped_ (q_isStopped2 (a := true) (b := false) hM hA (by omega)) hM.ob rfl (by omega) (Nat.le_of_ble_eq_true rfl) (Nat.zero_le _) (Nat.zero_le _) (fun E h' n' _ z => rp_x z) (rp_k (fun p62 p62ρ p62τ p62M p62A p62F => ?_))
          obtain ⟨Gp62, hGp62, eGp62⟩ := p62M.out
          show SW _ _ _ _ _ _ _ (.int 1 :: _) _ _ _
          refine sw_if_eq (pc' := 68) (tgt := 70) rfl dX5_pourRest_65 (by decide +kernel) (fun c65 => ?_) (fun c65 => ?_)
          · exact absurd c65 (by decide +kernel)
          · refine sw_iconst (pc' := 69) (v := 0) rfl dX5_pourRest_68 (by decide +kernel) ?_
            refine sw_ret (v := some _) ⟨dX5_pourRest_69, _, rfl, rfl⟩ ?_
            rw [opPourRest, onWk_k hk, onSh_x qj1]
            exact pm_x tc_1 p62M p62A p62F (Nat.le_refl _)
        · exact absurd c23 (by decide +kernel)
  have hcj := hI.1 j hj
  rcases Classical.em ((σ.2.2.2.2.1 k).1 = false) with qm | qm
  · refine sw_iload_n (pc' := 1) rfl dX5_pourRest_0 rfl ?_
    refine sw_S (M' := MX5_isNoWalk) (d' := d - 1) (bc' := 0) (bs' := 0) (as := [_]) dX5_pourRest_1 w_1306 ok_X5_isNoWalk (q_isNoWalk (by omega)) (by omega) (Nat.le_of_ble_eq_true rfl) (Nat.zero_le _) (Nat.zero_le _) (fun E h' n' _ z => det_x z) (det_k ?_)
    rw [show inB (nI k) 0 5 = true from inB_k (N := 5) (by omega) (by decide +kernel)]
    show SW _ _ _ _ _ _ _ (.int 0 :: _) _ _ _
    refine sw_if_ne (pc' := 7) (tgt := 14) rfl dX5_pourRest_4 (by decide +kernel) (fun c4 => ?_) (fun c4 => ?_)
    · exact absurd c4 (by decide +kernel)
    · refine sw_iload_n (pc' := 8) rfl dX5_pourRest_7 rfl ?_
      refine sw_S (M' := MX5_isNone) (d' := d - 1) (bc' := 0) (bs' := 0) (as := [_]) dX5_pourRest_8 w_1165 ok_X5_isNone (q_isNone (by omega)) (by omega) (Nat.le_of_ble_eq_true rfl) (Nat.zero_le _) (Nat.zero_le _) (fun E h' n' _ z => det_x z) (det_k ?_)
      rw [show inB (nI j) 0 10 = true from inB_k (N := 10) (by omega) (by decide +kernel)]
      show SW _ _ _ _ _ _ _ (.int 0 :: _) _ _ _
      refine sw_if_eq (pc' := 14) (tgt := 18) rfl dX5_pourRest_11 (by decide +kernel) (fun c11 => ?_) (fun c11 => ?_)
      · refine sw_iconst (pc' := 19) (v := 0) rfl dX5_pourRest_18 (by decide +kernel) ?_
        refine sw_istore_n (pc' := 20) (lv' := [(3, _), (0, _), (1, _), (2, _)]) rfl dX5_pourRest_19 (by decide +kernel) rfl ?_
        refine sw_aload_n (pc' := 21) rfl dX5_pourRest_20 rfl ?_
        refine sw_iload_n (pc' := 22) rfl dX5_pourRest_21 rfl ?_
        refine sw_iload_n (pc' := 23) rfl dX5_pourRest_22 rfl ?_
        refine sw_if_ne (pc' := 26) (tgt := 61) rfl dX5_pourRest_23 (by decide +kernel) (fun c23 => ?_) (fun c23 => ?_)
        · exact absurd c23 (by decide +kernel)
        · refine sw_aload_n (pc' := 27) rfl dX5_pourRest_26 rfl ?_
          refine sw_iload_n (pc' := 28) rfl dX5_pourRest_27 rfl ?_
          refine sw_V (M' := MX5_isUnmade) (d' := d - 1) (bc' := 0) (bs' := 0) (ci := 6) (as := [_]) dX5_pourRest_28 w_1313 ok_X5_isUnmade (q_isUnmade_k hM (k := k) (by omega) (hI.2.2.2.2.2.2.1 k (by omega)) (by omega)) hM.ob rfl (by omega) (Nat.le_of_ble_eq_true rfl) (Nat.zero_le _) (Nat.zero_le _) (fun E h' n' _ z => det_x z) (det_k ?_)
          rw [show (σ.2.2.2.2.1 k).1 = false from qm]
          show SW _ _ _ _ _ _ _ (.int 1 :: _) _ _ _
          refine sw_if_ne (pc' := 34) (tgt := 57) rfl dX5_pourRest_31 (by decide +kernel) (fun c31 => ?_) (fun c31 => ?_)
          · refine sw_iconst (pc' := 58) (v := 1) rfl dX5_pourRest_57 (by decide +kernel) ?_
            refine sw_goto (tgt := 62) dX5_pourRest_58 (by decide +kernel) ?_
            refine sw_V (M' := MX5_isStopped_) (d' := d - 1) (bc' := 0) (bs' := 0) (ci := 6) (as := [_, _]) dX5_pourRest_62 w_1215 ok_X5_isStopped_ (q_isStopped2 (a := false) (b := true) hM hA (by omega)) hM.ob rfl (by omega) (Nat.le_of_ble_eq_true rfl) (Nat.zero_le _) (Nat.zero_le _) (fun E h' n' _ z => rp_x z) (rp_k (fun p62 p62ρ p62τ p62M p62A p62F => ?_))
            obtain ⟨Gp62, hGp62, eGp62⟩ := p62M.out
            show SW _ _ _ _ _ _ _ (.int 1 :: _) _ _ _
            refine sw_if_eq (pc' := 68) (tgt := 70) rfl dX5_pourRest_65 (by decide +kernel) (fun c65 => ?_) (fun c65 => ?_)
            · exact absurd c65 (by decide +kernel)
            · refine sw_iconst (pc' := 69) (v := 0) rfl dX5_pourRest_68 (by decide +kernel) ?_
              refine sw_ret (v := some _) ⟨dX5_pourRest_69, _, rfl, rfl⟩ ?_
              rw [opPourRest, onWk_k hk, onSh_k hj, if_pos qm]
              exact pm_x (tc_2 sSI) p62M p62A p62F (Nat.le_refl _)
          · exact absurd c31 (by decide +kernel)
      · exact absurd c11 (by decide +kernel)
  rcases Classical.em (12 < nI (σ.2.1 j) + nI (σ.2.1 (wO σ k))) with qr | qr
  · have hroom : 12 < σ.2.1 j + σ.2.1 (wO σ k) := (roomS (by omega) (by omega)).mp qr
    refine sw_iload_n (pc' := 1) rfl dX5_pourRest_0 rfl ?_
    refine sw_S (M' := MX5_isNoWalk) (d' := d - 1) (bc' := 0) (bs' := 0) (as := [_]) dX5_pourRest_1 w_1306 ok_X5_isNoWalk (q_isNoWalk (by omega)) (by omega) (Nat.le_of_ble_eq_true rfl) (Nat.zero_le _) (Nat.zero_le _) (fun E h' n' _ z => det_x z) (det_k ?_)
    rw [show inB (nI k) 0 5 = true from inB_k (N := 5) (by omega) (by decide +kernel)]
    show SW _ _ _ _ _ _ _ (.int 0 :: _) _ _ _
    refine sw_if_ne (pc' := 7) (tgt := 14) rfl dX5_pourRest_4 (by decide +kernel) (fun c4 => ?_) (fun c4 => ?_)
    · exact absurd c4 (by decide +kernel)
    · refine sw_iload_n (pc' := 8) rfl dX5_pourRest_7 rfl ?_
      refine sw_S (M' := MX5_isNone) (d' := d - 1) (bc' := 0) (bs' := 0) (as := [_]) dX5_pourRest_8 w_1165 ok_X5_isNone (q_isNone (by omega)) (by omega) (Nat.le_of_ble_eq_true rfl) (Nat.zero_le _) (Nat.zero_le _) (fun E h' n' _ z => det_x z) (det_k ?_)
      rw [show inB (nI j) 0 10 = true from inB_k (N := 10) (by omega) (by decide +kernel)]
      show SW _ _ _ _ _ _ _ (.int 0 :: _) _ _ _
      refine sw_if_eq (pc' := 14) (tgt := 18) rfl dX5_pourRest_11 (by decide +kernel) (fun c11 => ?_) (fun c11 => ?_)
      · refine sw_iconst (pc' := 19) (v := 0) rfl dX5_pourRest_18 (by decide +kernel) ?_
        refine sw_istore_n (pc' := 20) (lv' := [(3, _), (0, _), (1, _), (2, _)]) rfl dX5_pourRest_19 (by decide +kernel) rfl ?_
        refine sw_aload_n (pc' := 21) rfl dX5_pourRest_20 rfl ?_
        refine sw_iload_n (pc' := 22) rfl dX5_pourRest_21 rfl ?_
        refine sw_iload_n (pc' := 23) rfl dX5_pourRest_22 rfl ?_
        refine sw_if_ne (pc' := 26) (tgt := 61) rfl dX5_pourRest_23 (by decide +kernel) (fun c23 => ?_) (fun c23 => ?_)
        · exact absurd c23 (by decide +kernel)
        · refine sw_aload_n (pc' := 27) rfl dX5_pourRest_26 rfl ?_
          refine sw_iload_n (pc' := 28) rfl dX5_pourRest_27 rfl ?_
          refine sw_V (M' := MX5_isUnmade) (d' := d - 1) (bc' := 0) (bs' := 0) (ci := 6) (as := [_]) dX5_pourRest_28 w_1313 ok_X5_isUnmade (q_isUnmade_k hM (k := k) (by omega) (hI.2.2.2.2.2.2.1 k (by omega)) (by omega)) hM.ob rfl (by omega) (Nat.le_of_ble_eq_true rfl) (Nat.zero_le _) (Nat.zero_le _) (fun E h' n' _ z => det_x z) (det_k ?_)
          rw [show (σ.2.2.2.2.1 k).1 = true from (mkT qm)]
          show SW _ _ _ _ _ _ _ (.int 0 :: _) _ _ _
          refine sw_if_ne (pc' := 34) (tgt := 57) rfl dX5_pourRest_31 (by decide +kernel) (fun c31 => ?_) (fun c31 => ?_)
          · exact absurd c31 (by decide +kernel)
          · refine sw_aload_n (pc' := 35) rfl dX5_pourRest_34 rfl ?_
            refine sw_getf (ci := 6) (k := 4) (pc' := 38) rfl dX5_pourRest_35 (by decide +kernel) w_1117 hM.ob rfl ?_
            refine sw_aload_n (pc' := 39) rfl dX5_pourRest_38 rfl ?_
            refine sw_getf (ci := 6) (k := 6) (pc' := 42) rfl dX5_pourRest_39 (by decide +kernel) w_1119 hM.ob rfl ?_
            refine sw_iload_n (pc' := 43) rfl dX5_pourRest_42 rfl ?_
            refine sw_iald (j := k) (pc' := 44) rfl dX5_pourRest_43 hM.sh rfl (by omega) (by decide +kernel) ?_
            rw [shF_m (k := k) (by omega) (mkT qm)]
            refine sw_iald (j := wO σ k) (pc' := 45) rfl dX5_pourRest_44 hM.sz rfl (by omega) (by decide +kernel) ?_
            refine sw_aload_n (pc' := 46) rfl dX5_pourRest_45 rfl ?_
            refine sw_getf (ci := 6) (k := 4) (pc' := 49) rfl dX5_pourRest_46 (by decide +kernel) w_1117 hM.ob rfl ?_
            refine sw_iload_n (pc' := 50) rfl dX5_pourRest_49 rfl ?_
            refine sw_iald (j := j) (pc' := 51) rfl dX5_pourRest_50 hM.sz rfl (by omega) (by decide +kernel) ?_
            refine sw_iadd (pc' := 52) rfl dX5_pourRest_51 ?_
            rw [show (nI (σ.2.1 (wO σ k))) + (nI (σ.2.1 j)) = nI (σ.2.1 (wO σ k) + σ.2.1 j) from nI_add _ _]
            refine sw_bipush (pc' := 54) (v := 12) rfl dX5_pourRest_52 (by decide +kernel) ?_
            refine sw_icmp_le (pc' := 57) (tgt := 61) rfl dX5_pourRest_54 (by decide +kernel) (fun c54 => ?_) (fun c54 => ?_)
            · exact absurd ((le12 (by omega)).mp c54) (by omega)
            · refine sw_iconst (pc' := 58) (v := 1) rfl dX5_pourRest_57 (by decide +kernel) ?_
              refine sw_goto (tgt := 62) dX5_pourRest_58 (by decide +kernel) ?_
              refine sw_V (M' := MX5_isStopped_) (d' := d - 1) (bc' := 0) (bs' := 0) (ci := 6) (as := [_, _]) dX5_pourRest_62 w_1215 ok_X5_isStopped_ (q_isStopped2 (a := false) (b := true) hM hA (by omega)) hM.ob rfl (by omega) (Nat.le_of_ble_eq_true rfl) (Nat.zero_le _) (Nat.zero_le _) (fun E h' n' _ z => rp_x z) (rp_k (fun p62 p62ρ p62τ p62M p62A p62F => ?_))
              obtain ⟨Gp62, hGp62, eGp62⟩ := p62M.out
              show SW _ _ _ _ _ _ _ (.int 1 :: _) _ _ _
              refine sw_if_eq (pc' := 68) (tgt := 70) rfl dX5_pourRest_65 (by decide +kernel) (fun c65 => ?_) (fun c65 => ?_)
              · exact absurd c65 (by decide +kernel)
              · refine sw_iconst (pc' := 69) (v := 0) rfl dX5_pourRest_68 (by decide +kernel) ?_
                refine sw_ret (v := some _) ⟨dX5_pourRest_69, _, rfl, rfl⟩ ?_
                rw [opPourRest, onWk_k hk, onSh_k hj, if_neg qm, if_pos qr]
                exact pm_x (tc_2 sSI) p62M p62A p62F (Nat.le_refl _)
      · exact absurd c11 (by decide +kernel)
  have hroom : σ.2.1 j + σ.2.1 (wO σ k) ≤ 12 := Nat.le_of_not_lt (fun g => qr ((roomS (by omega) (by omega)).mpr g))
  refine sw_iload_n (pc' := 1) rfl dX5_pourRest_0 rfl ?_
  refine sw_S (M' := MX5_isNoWalk) (d' := d - 1) (bc' := 0) (bs' := 0) (as := [_]) dX5_pourRest_1 w_1306 ok_X5_isNoWalk (q_isNoWalk (by omega)) (by omega) (Nat.le_of_ble_eq_true rfl) (Nat.zero_le _) (Nat.zero_le _) (fun E h' n' _ z => det_x z) (det_k ?_)
  rw [show inB (nI k) 0 5 = true from inB_k (N := 5) (by omega) (by decide +kernel)]
  show SW _ _ _ _ _ _ _ (.int 0 :: _) _ _ _
  refine sw_if_ne (pc' := 7) (tgt := 14) rfl dX5_pourRest_4 (by decide +kernel) (fun c4 => ?_) (fun c4 => ?_)
  · exact absurd c4 (by decide +kernel)
  · refine sw_iload_n (pc' := 8) rfl dX5_pourRest_7 rfl ?_
    refine sw_S (M' := MX5_isNone) (d' := d - 1) (bc' := 0) (bs' := 0) (as := [_]) dX5_pourRest_8 w_1165 ok_X5_isNone (q_isNone (by omega)) (by omega) (Nat.le_of_ble_eq_true rfl) (Nat.zero_le _) (Nat.zero_le _) (fun E h' n' _ z => det_x z) (det_k ?_)
    rw [show inB (nI j) 0 10 = true from inB_k (N := 10) (by omega) (by decide +kernel)]
    show SW _ _ _ _ _ _ _ (.int 0 :: _) _ _ _
    refine sw_if_eq (pc' := 14) (tgt := 18) rfl dX5_pourRest_11 (by decide +kernel) (fun c11 => ?_) (fun c11 => ?_)
    · refine sw_iconst (pc' := 19) (v := 0) rfl dX5_pourRest_18 (by decide +kernel) ?_
      refine sw_istore_n (pc' := 20) (lv' := [(3, _), (0, _), (1, _), (2, _)]) rfl dX5_pourRest_19 (by decide +kernel) rfl ?_
      refine sw_aload_n (pc' := 21) rfl dX5_pourRest_20 rfl ?_
      refine sw_iload_n (pc' := 22) rfl dX5_pourRest_21 rfl ?_
      refine sw_iload_n (pc' := 23) rfl dX5_pourRest_22 rfl ?_
      refine sw_if_ne (pc' := 26) (tgt := 61) rfl dX5_pourRest_23 (by decide +kernel) (fun c23 => ?_) (fun c23 => ?_)
      · exact absurd c23 (by decide +kernel)
      · refine sw_aload_n (pc' := 27) rfl dX5_pourRest_26 rfl ?_
        refine sw_iload_n (pc' := 28) rfl dX5_pourRest_27 rfl ?_
        refine sw_V (M' := MX5_isUnmade) (d' := d - 1) (bc' := 0) (bs' := 0) (ci := 6) (as := [_]) dX5_pourRest_28 w_1313 ok_X5_isUnmade (q_isUnmade_k hM (k := k) (by omega) (hI.2.2.2.2.2.2.1 k (by omega)) (by omega)) hM.ob rfl (by omega) (Nat.le_of_ble_eq_true rfl) (Nat.zero_le _) (Nat.zero_le _) (fun E h' n' _ z => det_x z) (det_k ?_)
        rw [show (σ.2.2.2.2.1 k).1 = true from (mkT qm)]
        show SW _ _ _ _ _ _ _ (.int 0 :: _) _ _ _
        refine sw_if_ne (pc' := 34) (tgt := 57) rfl dX5_pourRest_31 (by decide +kernel) (fun c31 => ?_) (fun c31 => ?_)
        · exact absurd c31 (by decide +kernel)
        · refine sw_aload_n (pc' := 35) rfl dX5_pourRest_34 rfl ?_
          refine sw_getf (ci := 6) (k := 4) (pc' := 38) rfl dX5_pourRest_35 (by decide +kernel) w_1117 hM.ob rfl ?_
          refine sw_aload_n (pc' := 39) rfl dX5_pourRest_38 rfl ?_
          refine sw_getf (ci := 6) (k := 6) (pc' := 42) rfl dX5_pourRest_39 (by decide +kernel) w_1119 hM.ob rfl ?_
          refine sw_iload_n (pc' := 43) rfl dX5_pourRest_42 rfl ?_
          refine sw_iald (j := k) (pc' := 44) rfl dX5_pourRest_43 hM.sh rfl (by omega) (by decide +kernel) ?_
          rw [shF_m (k := k) (by omega) (mkT qm)]
          refine sw_iald (j := wO σ k) (pc' := 45) rfl dX5_pourRest_44 hM.sz rfl (by omega) (by decide +kernel) ?_
          refine sw_aload_n (pc' := 46) rfl dX5_pourRest_45 rfl ?_
          refine sw_getf (ci := 6) (k := 4) (pc' := 49) rfl dX5_pourRest_46 (by decide +kernel) w_1117 hM.ob rfl ?_
          refine sw_iload_n (pc' := 50) rfl dX5_pourRest_49 rfl ?_
          refine sw_iald (j := j) (pc' := 51) rfl dX5_pourRest_50 hM.sz rfl (by omega) (by decide +kernel) ?_
          refine sw_iadd (pc' := 52) rfl dX5_pourRest_51 ?_
          rw [show (nI (σ.2.1 (wO σ k))) + (nI (σ.2.1 j)) = nI (σ.2.1 (wO σ k) + σ.2.1 j) from nI_add _ _]
          refine sw_bipush (pc' := 54) (v := 12) rfl dX5_pourRest_52 (by decide +kernel) ?_
          refine sw_icmp_le (pc' := 57) (tgt := 61) rfl dX5_pourRest_54 (by decide +kernel) (fun c54 => ?_) (fun c54 => ?_)
          · refine sw_iconst (pc' := 62) (v := 0) rfl dX5_pourRest_61 (by decide +kernel) ?_
            refine sw_V (M' := MX5_isStopped_) (d' := d - 1) (bc' := 0) (bs' := 0) (ci := 6) (as := [_, _]) dX5_pourRest_62 w_1215 ok_X5_isStopped_ (q_isStopped2 (a := false) (b := false) hM hA (by omega)) hM.ob rfl (by omega) (Nat.le_of_ble_eq_true rfl) (Nat.zero_le _) (Nat.zero_le _) (fun E h' n' _ z => rp_x z) (rp_k (fun p62 p62ρ p62τ p62M p62A p62F => ?_))
            obtain ⟨Gp62, hGp62, eGp62⟩ := p62M.out
            show SW _ _ _ _ _ _ _ (.int 0 :: _) _ _ _
            refine sw_if_eq (pc' := 68) (tgt := 70) rfl dX5_pourRest_65 (by decide +kernel) (fun c65 => ?_) (fun c65 => ?_)
            · refine sw_aload_n (pc' := 71) rfl dX5_pourRest_70 rfl ?_
              refine sw_iload_n (pc' := 72) rfl dX5_pourRest_71 rfl ?_
              refine sw_V (M' := MX5_isStale) (d' := d - 1) (bc' := 0) (bs' := 0) (ci := 6) (as := [_]) dX5_pourRest_72 w_1317 ok_X5_isStale (q_isStale p62M (k := k) (by omega) (mkT qm) (hI.2.2.2.2.2.2.1 k (by omega))) p62M.ob rfl (by omega) (Nat.le_of_ble_eq_true rfl) (Nat.zero_le _) (Nat.zero_le _) (fun E h' n' _ z => det_x z) (det_k ?_)
              refine sw_if_ne (pc' := 78) (tgt := 115) rfl dX5_pourRest_75 (by decide +kernel) (fun c75 => ?_) (fun c75 => ?_)
              · refine sw_aload_n (pc' := 116) rfl dX5_pourRest_115 rfl ?_
                refine sw_V (M' := MX5_no) (d' := d - 1) (bc' := 0) (bs' := 0) (ci := 6) (as := []) dX5_pourRest_116 w_1184 ok_X5_no (q_no p62M p62A) p62M.ob rfl (by omega) (Nat.le_of_ble_eq_true rfl) (Nat.zero_le _) (Nat.zero_le _) (fun E h' n' _ z => rp_x z) (rp_k (fun p116 p116ρ p116τ p116M p116A p116F => ?_))
                obtain ⟨Gp116, hGp116, eGp116⟩ := p116M.out
                refine sw_ret (v := some _) ⟨dX5_pourRest_119, _, rfl, rfl⟩ ?_
                rw [opPourRest, onWk_k hk, onSh_k hj, if_neg qm, if_neg qr, if_pos (Or.inl (wGa_s (bI_1 c75)))]
                exact pm_k p116M p116A (p62F.tr p116F (Nat.le_refl _)) (Nat.le_refl _)
              · refine sw_aload_n (pc' := 79) rfl dX5_pourRest_78 rfl ?_
                refine sw_getf (ci := 6) (k := 7) (pc' := 82) rfl dX5_pourRest_79 (by decide +kernel) w_1120 p62M.ob rfl ?_
                refine sw_iload_n (pc' := 83) rfl dX5_pourRest_82 rfl ?_
                refine sw_iald (j := k) (pc' := 84) rfl dX5_pourRest_83 p62M.hw rfl (by omega) (by decide +kernel) ?_
                refine sw_iconst (pc' := 85) (v := 1) rfl dX5_pourRest_84 (by decide +kernel) ?_
                refine sw_icmp_eq (pc' := 88) (tgt := 115) rfl dX5_pourRest_85 (by decide +kernel) (fun c85 => ?_) (fun c85 => ?_)
                · refine sw_aload_n (pc' := 116) rfl dX5_pourRest_115 rfl ?_
                  refine sw_V (M' := MX5_no) (d' := d - 1) (bc' := 0) (bs' := 0) (ci := 6) (as := []) dX5_pourRest_116 w_1184 ok_X5_no (q_no p62M p62A) p62M.ob rfl (by omega) (Nat.le_of_ble_eq_true rfl) (Nat.zero_le _) (Nat.zero_le _) (fun E h' n' _ z => rp_x z) (rp_k (fun p116 p116ρ p116τ p116M p116A p116F => ?_))
                  obtain ⟨Gp116, hGp116, eGp116⟩ := p116M.out
                  refine sw_ret (v := some _) ⟨dX5_pourRest_119, _, rfl, rfl⟩ ?_
                  rw [opPourRest, onWk_k hk, onSh_k hj, if_neg qm, if_neg qr, if_pos (Or.inl (wGa_1 c85))]
                  exact pm_k p116M p116A (p62F.tr p116F (Nat.le_refl _)) (Nat.le_refl _)
                · refine sw_iload_n (pc' := 89) rfl dX5_pourRest_88 rfl ?_
                  refine sw_S (M' := MX5_isTable) (d' := d - 1) (bc' := 0) (bs' := 0) (as := [_]) dX5_pourRest_89 w_1178 ok_X5_isTable (q_isTable) (by omega) (Nat.le_of_ble_eq_true rfl) (Nat.zero_le _) (Nat.zero_le _) (fun E h' n' _ z => det_x z) (det_k ?_)
                  rw [tb_k (k := j) (by omega)]
                  refine sw_if_ne (pc' := 95) (tgt := 115) rfl dX5_pourRest_92 (by decide +kernel) (fun c92 => ?_) (fun c92 => ?_)
                  · refine sw_aload_n (pc' := 116) rfl dX5_pourRest_115 rfl ?_
                    refine sw_V (M' := MX5_no) (d' := d - 1) (bc' := 0) (bs' := 0) (ci := 6) (as := []) dX5_pourRest_116 w_1184 ok_X5_no (q_no p62M p62A) p62M.ob rfl (by omega) (Nat.le_of_ble_eq_true rfl) (Nat.zero_le _) (Nat.zero_le _) (fun E h' n' _ z => rp_x z) (rp_k (fun p116 p116ρ p116τ p116M p116A p116F => ?_))
                    obtain ⟨Gp116, hGp116, eGp116⟩ := p116M.out
                    refine sw_ret (v := some _) ⟨dX5_pourRest_119, _, rfl, rfl⟩ ?_
                    rw [opPourRest, onWk_k hk, onSh_k hj, if_neg qm, if_neg qr, if_pos (Or.inr (cpB_1 (of_decide_eq_true (bI_1 c92))))]
                    exact pm_k p116M p116A (p62F.tr p116F (Nat.le_refl _)) (Nat.le_refl _)
                  · refine sw_aload_n (pc' := 96) rfl dX5_pourRest_95 rfl ?_
                    refine sw_aload_n (pc' := 97) rfl dX5_pourRest_96 rfl ?_
                    refine sw_getf (ci := 6) (k := 6) (pc' := 100) rfl dX5_pourRest_97 (by decide +kernel) w_1119 p62M.ob rfl ?_
                    refine sw_iload_n (pc' := 101) rfl dX5_pourRest_100 rfl ?_
                    refine sw_iald (j := k) (pc' := 102) rfl dX5_pourRest_101 p62M.sh rfl (by omega) (by decide +kernel) ?_
                    rw [shF_m (k := k) (by omega) (mkT qm)]
                    refine sw_V (M' := MX5_hasNothing) (d' := d - 1) (bc' := 0) (bs' := 0) (ci := 6) (as := [_]) dX5_pourRest_102 w_1251 ok_X5_hasNothing (q_hasNothing p62M p62A (k := wO σ k) (by omega) (hI.1 (wO σ k) (by omega)) (by omega)) p62M.ob rfl (by omega) (Nat.le_of_ble_eq_true rfl) (Nat.zero_le _) (Nat.zero_le _) (fun E h' n' _ z => det_x z) (det_k ?_)
                    refine sw_if_eq (pc' := 108) (tgt := 120) rfl dX5_pourRest_105 (by decide +kernel) (fun c105 => ?_) (fun c105 => ?_)
                    · obtain ⟨A, eA, hA1, hA2⟩ := hI.2.2.2.2.2.2.2 k hk (mkT qm) (bI_0 c75)
                      refine sw_aload_n (pc' := 121) rfl dX5_pourRest_120 rfl ?_
                      refine sw_iload_n (pc' := 122) rfl dX5_pourRest_121 rfl ?_
                      refine sw_V (M' := MX5_left) (d' := d - 1) (bc' := 1) (bs' := 12) (ci := 6) (as := [_]) dX5_pourRest_122 w_1347 ok_X5_left (q_left p62M p62A (k := k) (by omega) (mkT qm) (hI.2.2.2.2.2.2.1 k (by omega)) (hI.1 _ (hI.2.2.2.2.2.2.1 k (by omega))) eA hA1 (by omega) (by omega) (by omega) (by omega)) p62M.ob rfl (by omega) (Nat.le_of_ble_eq_true rfl) (by omega) (by omega) (fun E h' n' _ z => nl_x z) (nl_k (fun p122 p122ρ p122τ p122f p122M p122A p122N p122g p122F => ?_))
                      obtain ⟨Gp122, hGp122, eGp122⟩ := p122M.out
                      refine sw_astore (pc' := 127) (lv' := [(4, _), (3, _), (0, _), (1, _), (2, _)]) rfl dX5_pourRest_125 (by decide +kernel) rfl ?_
                      refine sw_aload_n (pc' := 128) rfl dX5_pourRest_127 rfl ?_
                      refine sw_iload_n (pc' := 129) rfl dX5_pourRest_128 rfl ?_
                      refine sw_aload (pc' := 131) rfl dX5_pourRest_129 rfl ?_
                      refine sw_aload (pc' := 133) rfl dX5_pourRest_131 rfl ?_
                      refine sw_alen (pc' := 134) rfl dX5_pourRest_133 p122N (by decide +kernel) (Or.inl (by show 100 ≤ _; omega)) ?_
                      have eP134 : pbM (wO σ k) j A (σ.2.1 (wO σ k) - A) false (gvU σ k (σ.2.1 (wO σ k) - A)) = caM j p122f 0 (σ.2.1 (wO σ k) - A) false (gvU σ k (σ.2.1 (wO σ k) - A)) := (pb_ca (s := wO σ k) (j := j) (f := σ.1 (wO σ k)) (c := σ.2.1 (wO σ k)) (by omega) (by omega) A (σ.2.1 (wO σ k) - A) 0 false (gvU σ k (σ.2.1 (wO σ k) - A)) (fun _ _ => rfl) (Nat.le_refl _) (show σ.2.1 (wO σ k) ≤ 12 by omega) (by show σ.2.1 j + (σ.2.1 (wO σ k) - A) ≤ 12; omega) (by omega)).trans (caM_cg (fun i _ hi => (p122g i (by omega)).symm))
                      refine sw_V (M' := MX5_comeAll) (d' := d - 1) (bc' := 0) (bs' := 0) (ci := 6) (as := [_, _, _]) dX5_pourRest_134 w_1207 ok_X5_comeAll (q_comeAll p122M p122A (k := j) (m9 := σ.2.1 (wO σ k) - A) (by omega) (fun e => e ▸ hI.2.2.2.1) (by show σ.2.1 j + (σ.2.1 (wO σ k) - A) ≤ 12; omega) (by omega) (by omega) p122N (by omega) (Nat.le_refl _) (by omega)) p122M.ob rfl (by omega) (Nat.le_of_ble_eq_true rfl) (Nat.zero_le _) (Nat.zero_le _) (fun E h' n' _ z => rp_x z) (rp_k (fun p134 p134ρ p134τ p134M p134A p134F => ?_))
                      obtain ⟨Gp134, hGp134, eGp134⟩ := p134M.out
                      refine sw_pop (pc' := 138) rfl dX5_pourRest_137 rfl ?_
                      refine sw_aload (pc' := 140) rfl dX5_pourRest_138 rfl ?_
                      refine sw_alen (pc' := 141) rfl dX5_pourRest_140 ((p134F n (Or.inr (by omega)) (by omega)).trans p122N) (by decide +kernel) (Or.inl (by show 100 ≤ _; omega)) ?_
                      refine sw_ret (v := some _) ⟨dX5_pourRest_141, _, rfl, rfl⟩ ?_
                      rw [opPourRest, onWk_k hk, onSh_k hj, if_neg qm, if_neg qr, if_neg (fun q => q.elim (fun e => Bool.noConfusion (e.symm.trans (wGa_t (bI_0 c75) c85))) (fun e => Bool.noConfusion (e.symm.trans (cpB_f (of_decide_eq_false (bI_0 c92)) (nnB_f1 (bI_0 c105)))))), wGu_eq (bI_0 c75) hcwk eA hA1 (by omega), tcl (by omega) eA, eP134]
                      exact pm_k p134M p134A ((p62F.tr p122F (Nat.le_refl _)).tr p134F (Nat.le_succ _)) (Nat.le_succ _)
                    · refine sw_iload_n (pc' := 109) rfl dX5_pourRest_108 rfl ?_
                      refine sw_S (M' := MX5_takesNothing) (d' := d - 1) (bc' := 0) (bs' := 0) (as := [_]) dX5_pourRest_109 w_1181 ok_X5_takesNothing (q_takesNothing (by omega)) (by omega) (Nat.le_of_ble_eq_true rfl) (Nat.zero_le _) (Nat.zero_le _) (fun E h' n' _ z => det_x z) (det_k ?_)
                      rw [tn_k (k := j) (by omega)]
                      refine sw_if_ne (pc' := 115) (tgt := 120) rfl dX5_pourRest_112 (by decide +kernel) (fun c112 => ?_) (fun c112 => ?_)
                      · obtain ⟨A, eA, hA1, hA2⟩ := hI.2.2.2.2.2.2.2 k hk (mkT qm) (bI_0 c75)
                        refine sw_aload_n (pc' := 121) rfl dX5_pourRest_120 rfl ?_
                        refine sw_iload_n (pc' := 122) rfl dX5_pourRest_121 rfl ?_
                        refine sw_V (M' := MX5_left) (d' := d - 1) (bc' := 1) (bs' := 12) (ci := 6) (as := [_]) dX5_pourRest_122 w_1347 ok_X5_left (q_left p62M p62A (k := k) (by omega) (mkT qm) (hI.2.2.2.2.2.2.1 k (by omega)) (hI.1 _ (hI.2.2.2.2.2.2.1 k (by omega))) eA hA1 (by omega) (by omega) (by omega) (by omega)) p62M.ob rfl (by omega) (Nat.le_of_ble_eq_true rfl) (by omega) (by omega) (fun E h' n' _ z => nl_x z) (nl_k (fun p122 p122ρ p122τ p122f p122M p122A p122N p122g p122F => ?_))
                        obtain ⟨Gp122, hGp122, eGp122⟩ := p122M.out
                        refine sw_astore (pc' := 127) (lv' := [(4, _), (3, _), (0, _), (1, _), (2, _)]) rfl dX5_pourRest_125 (by decide +kernel) rfl ?_
                        refine sw_aload_n (pc' := 128) rfl dX5_pourRest_127 rfl ?_
                        refine sw_iload_n (pc' := 129) rfl dX5_pourRest_128 rfl ?_
                        refine sw_aload (pc' := 131) rfl dX5_pourRest_129 rfl ?_
                        refine sw_aload (pc' := 133) rfl dX5_pourRest_131 rfl ?_
                        refine sw_alen (pc' := 134) rfl dX5_pourRest_133 p122N (by decide +kernel) (Or.inl (by show 100 ≤ _; omega)) ?_
                        have eP134 : pbM (wO σ k) j A (σ.2.1 (wO σ k) - A) false (gvU σ k (σ.2.1 (wO σ k) - A)) = caM j p122f 0 (σ.2.1 (wO σ k) - A) false (gvU σ k (σ.2.1 (wO σ k) - A)) := (pb_ca (s := wO σ k) (j := j) (f := σ.1 (wO σ k)) (c := σ.2.1 (wO σ k)) (by omega) (by omega) A (σ.2.1 (wO σ k) - A) 0 false (gvU σ k (σ.2.1 (wO σ k) - A)) (fun _ _ => rfl) (Nat.le_refl _) (show σ.2.1 (wO σ k) ≤ 12 by omega) (by show σ.2.1 j + (σ.2.1 (wO σ k) - A) ≤ 12; omega) (by omega)).trans (caM_cg (fun i _ hi => (p122g i (by omega)).symm))
                        refine sw_V (M' := MX5_comeAll) (d' := d - 1) (bc' := 0) (bs' := 0) (ci := 6) (as := [_, _, _]) dX5_pourRest_134 w_1207 ok_X5_comeAll (q_comeAll p122M p122A (k := j) (m9 := σ.2.1 (wO σ k) - A) (by omega) (fun e => e ▸ hI.2.2.2.1) (by show σ.2.1 j + (σ.2.1 (wO σ k) - A) ≤ 12; omega) (by omega) (by omega) p122N (by omega) (Nat.le_refl _) (by omega)) p122M.ob rfl (by omega) (Nat.le_of_ble_eq_true rfl) (Nat.zero_le _) (Nat.zero_le _) (fun E h' n' _ z => rp_x z) (rp_k (fun p134 p134ρ p134τ p134M p134A p134F => ?_))
                        obtain ⟨Gp134, hGp134, eGp134⟩ := p134M.out
                        refine sw_pop (pc' := 138) rfl dX5_pourRest_137 rfl ?_
                        refine sw_aload (pc' := 140) rfl dX5_pourRest_138 rfl ?_
                        refine sw_alen (pc' := 141) rfl dX5_pourRest_140 ((p134F n (Or.inr (by omega)) (by omega)).trans p122N) (by decide +kernel) (Or.inl (by show 100 ≤ _; omega)) ?_
                        refine sw_ret (v := some _) ⟨dX5_pourRest_141, _, rfl, rfl⟩ ?_
                        rw [opPourRest, onWk_k hk, onSh_k hj, if_neg qm, if_neg qr, if_neg (fun q => q.elim (fun e => Bool.noConfusion (e.symm.trans (wGa_t (bI_0 c75) c85))) (fun e => Bool.noConfusion (e.symm.trans (cpB_f (of_decide_eq_false (bI_0 c92)) (nnB_f2 (bI_1 c112)))))), wGu_eq (bI_0 c75) hcwk eA hA1 (by omega), tcl (by omega) eA, eP134]
                        exact pm_k p134M p134A ((p62F.tr p122F (Nat.le_refl _)).tr p134F (Nat.le_succ _)) (Nat.le_succ _)
                      · refine sw_aload_n (pc' := 116) rfl dX5_pourRest_115 rfl ?_
                        refine sw_V (M' := MX5_no) (d' := d - 1) (bc' := 0) (bs' := 0) (ci := 6) (as := []) dX5_pourRest_116 w_1184 ok_X5_no (q_no p62M p62A) p62M.ob rfl (by omega) (Nat.le_of_ble_eq_true rfl) (Nat.zero_le _) (Nat.zero_le _) (fun E h' n' _ z => rp_x z) (rp_k (fun p116 p116ρ p116τ p116M p116A p116F => ?_))
                        obtain ⟨Gp116, hGp116, eGp116⟩ := p116M.out
                        refine sw_ret (v := some _) ⟨dX5_pourRest_119, _, rfl, rfl⟩ ?_
                        rw [opPourRest, onWk_k hk, onSh_k hj, if_neg qm, if_neg qr, if_pos (Or.inr (cpB_2 (nnB_t (bI_1 c105) (bI_0 c112))))]
                        exact pm_k p116M p116A (p62F.tr p116F (Nat.le_refl _)) (Nat.le_refl _)
            · exact absurd c65 (by decide +kernel)
          · exact absurd ((le12 (by omega)).mpr (by omega)) c54
    · exact absurd c11 (by decide +kernel)
theorem q_takeOut {h : AH} {d bc bs n : Nat} {σ : CS} {th : Int32} {a : Int32} (hR : RMo h σ th) (hI : Iv σ) (hn : 159 ≤ n) (hd : 8 ≤ d) (h1 : 1 ≤ bc) (h2 : 12 ≤ bs)  : SM SR0 MX5_takeOut d bc bs [.ref 135, .int a] h n (PM h n (tc sI sS) (opTakeOut σ a)) := by
  obtain ⟨ρ, τ, hM, hA⟩ := hR
  obtain ⟨G0, hG0, eG0⟩ := hM.out
  refine sm_of pn_OverwalksModel rfl (Nat.le_of_ble_eq_true rfl) ?_
  rcases idxN 6 (by decide +kernel) a with qk1 | ⟨k, hk, rfl⟩
  · refine sw_aload_n (pc' := 1) rfl dX5_takeOut_0 rfl ?_
    refine sw_iload_n (pc' := 2) rfl dX5_takeOut_1 rfl ?_
    refine sw_S (M' := MX5_isNoWalk) (d' := d - 1) (bc' := 0) (bs' := 0) (as := [_]) dX5_takeOut_2 w_1306 ok_X5_isNoWalk (q_isNoWalk (by omega)) (by omega) (Nat.le_of_ble_eq_true rfl) (Nat.zero_le _) (Nat.zero_le _) (fun E h' n' _ z => det_x z) (det_k ?_)
    rw [show inB a 0 5 = false from no_x (N := 5) (by decide +kernel) qk1]
    show SW _ _ _ _ _ _ _ (.int 1 :: _) _ _ _
    refine sw_aload_n (pc' := 6) rfl dX5_takeOut_5 rfl ?_
    refine sw_iload_n (pc' := 7) rfl dX5_takeOut_6 rfl ?_
    refine sw_V (M' := MX5_isUnmade) (d' := d - 1) (bc' := 0) (bs' := 0) (ci := 6) (as := [_]) dX5_takeOut_7 w_1313 ok_X5_isUnmade (q_isUnmade_x hM (no_x (N := 5) (by decide +kernel) qk1) (by omega)) hM.ob rfl (by omega) (Nat.le_of_ble_eq_true rfl) (Nat.zero_le _) (Nat.zero_le _) (fun E h' n' _ z => det_x z) (det_k ?_)
    refine sw_V (M' := MX5_isStopped_) (d' := d - 1) (bc' := 0) (bs' := 0) (ci := 6) (as := [_, _]) dX5_takeOut_10 w_1215 ok_X5_isStopped_ (q_isStopped2 (a := true) (b := false) hM hA (by omega)) hM.ob rfl (by omega) (Nat.le_of_ble_eq_true rfl) (Nat.zero_le _) (Nat.zero_le _) (fun E h' n' _ z => rp_x z) (rp_k (fun p10 p10ρ p10τ p10M p10A p10F => ?_))
    obtain ⟨Gp10, hGp10, eGp10⟩ := p10M.out
    show SW _ _ _ _ _ _ _ (.int 1 :: _) _ _ _
    refine sw_if_eq (pc' := 16) (tgt := 18) rfl dX5_takeOut_13 (by decide +kernel) (fun c13 => ?_) (fun c13 => ?_)
    · exact absurd c13 (by decide +kernel)
    · refine sw_iconst (pc' := 17) (v := 0) rfl dX5_takeOut_16 (by decide +kernel) ?_
      refine sw_ret (v := some _) ⟨dX5_takeOut_17, _, rfl, rfl⟩ ?_
      rw [opTakeOut, onWk_x qk1]
      exact pm_x tc_1 p10M p10A p10F (Nat.le_refl _)
  have ovk := hI.2.2.2.2.2.2.1 k hk
  have hcwk := hI.1 _ ovk
  rcases Classical.em ((σ.2.2.2.2.1 k).1 = false) with qm | qm
  · refine sw_aload_n (pc' := 1) rfl dX5_takeOut_0 rfl ?_
    refine sw_iload_n (pc' := 2) rfl dX5_takeOut_1 rfl ?_
    refine sw_S (M' := MX5_isNoWalk) (d' := d - 1) (bc' := 0) (bs' := 0) (as := [_]) dX5_takeOut_2 w_1306 ok_X5_isNoWalk (q_isNoWalk (by omega)) (by omega) (Nat.le_of_ble_eq_true rfl) (Nat.zero_le _) (Nat.zero_le _) (fun E h' n' _ z => det_x z) (det_k ?_)
    rw [show inB (nI k) 0 5 = true from inB_k (N := 5) (by omega) (by decide +kernel)]
    show SW _ _ _ _ _ _ _ (.int 0 :: _) _ _ _
    refine sw_aload_n (pc' := 6) rfl dX5_takeOut_5 rfl ?_
    refine sw_iload_n (pc' := 7) rfl dX5_takeOut_6 rfl ?_
    refine sw_V (M' := MX5_isUnmade) (d' := d - 1) (bc' := 0) (bs' := 0) (ci := 6) (as := [_]) dX5_takeOut_7 w_1313 ok_X5_isUnmade (q_isUnmade_k hM (k := k) (by omega) (hI.2.2.2.2.2.2.1 k (by omega)) (by omega)) hM.ob rfl (by omega) (Nat.le_of_ble_eq_true rfl) (Nat.zero_le _) (Nat.zero_le _) (fun E h' n' _ z => det_x z) (det_k ?_)
    rw [show (σ.2.2.2.2.1 k).1 = false from qm]
    show SW _ _ _ _ _ _ _ (.int 1 :: _) _ _ _
    refine sw_V (M' := MX5_isStopped_) (d' := d - 1) (bc' := 0) (bs' := 0) (ci := 6) (as := [_, _]) dX5_takeOut_10 w_1215 ok_X5_isStopped_ (q_isStopped2 (a := false) (b := true) hM hA (by omega)) hM.ob rfl (by omega) (Nat.le_of_ble_eq_true rfl) (Nat.zero_le _) (Nat.zero_le _) (fun E h' n' _ z => rp_x z) (rp_k (fun p10 p10ρ p10τ p10M p10A p10F => ?_))
    obtain ⟨Gp10, hGp10, eGp10⟩ := p10M.out
    show SW _ _ _ _ _ _ _ (.int 1 :: _) _ _ _
    refine sw_if_eq (pc' := 16) (tgt := 18) rfl dX5_takeOut_13 (by decide +kernel) (fun c13 => ?_) (fun c13 => ?_)
    · exact absurd c13 (by decide +kernel)
    · refine sw_iconst (pc' := 17) (v := 0) rfl dX5_takeOut_16 (by decide +kernel) ?_
      refine sw_ret (v := some _) ⟨dX5_takeOut_17, _, rfl, rfl⟩ ?_
      rw [opTakeOut, onWk_k hk, if_pos qm]
      exact pm_x (tc_2 sSI) p10M p10A p10F (Nat.le_refl _)
  refine sw_aload_n (pc' := 1) rfl dX5_takeOut_0 rfl ?_
  refine sw_iload_n (pc' := 2) rfl dX5_takeOut_1 rfl ?_
  refine sw_S (M' := MX5_isNoWalk) (d' := d - 1) (bc' := 0) (bs' := 0) (as := [_]) dX5_takeOut_2 w_1306 ok_X5_isNoWalk (q_isNoWalk (by omega)) (by omega) (Nat.le_of_ble_eq_true rfl) (Nat.zero_le _) (Nat.zero_le _) (fun E h' n' _ z => det_x z) (det_k ?_)
  rw [show inB (nI k) 0 5 = true from inB_k (N := 5) (by omega) (by decide +kernel)]
  show SW _ _ _ _ _ _ _ (.int 0 :: _) _ _ _
  refine sw_aload_n (pc' := 6) rfl dX5_takeOut_5 rfl ?_
  refine sw_iload_n (pc' := 7) rfl dX5_takeOut_6 rfl ?_
  refine sw_V (M' := MX5_isUnmade) (d' := d - 1) (bc' := 0) (bs' := 0) (ci := 6) (as := [_]) dX5_takeOut_7 w_1313 ok_X5_isUnmade (q_isUnmade_k hM (k := k) (by omega) (hI.2.2.2.2.2.2.1 k (by omega)) (by omega)) hM.ob rfl (by omega) (Nat.le_of_ble_eq_true rfl) (Nat.zero_le _) (Nat.zero_le _) (fun E h' n' _ z => det_x z) (det_k ?_)
  rw [show (σ.2.2.2.2.1 k).1 = true from (mkT qm)]
  show SW _ _ _ _ _ _ _ (.int 0 :: _) _ _ _
  refine sw_V (M' := MX5_isStopped_) (d' := d - 1) (bc' := 0) (bs' := 0) (ci := 6) (as := [_, _]) dX5_takeOut_10 w_1215 ok_X5_isStopped_ (q_isStopped2 (a := false) (b := false) hM hA (by omega)) hM.ob rfl (by omega) (Nat.le_of_ble_eq_true rfl) (Nat.zero_le _) (Nat.zero_le _) (fun E h' n' _ z => rp_x z) (rp_k (fun p10 p10ρ p10τ p10M p10A p10F => ?_))
  obtain ⟨Gp10, hGp10, eGp10⟩ := p10M.out
  show SW _ _ _ _ _ _ _ (.int 0 :: _) _ _ _
  refine sw_if_eq (pc' := 16) (tgt := 18) rfl dX5_takeOut_13 (by decide +kernel) (fun c13 => ?_) (fun c13 => ?_)
  · refine sw_aload_n (pc' := 19) rfl dX5_takeOut_18 rfl ?_
    refine sw_iload_n (pc' := 20) rfl dX5_takeOut_19 rfl ?_
    refine sw_V (M' := MX5_isStale) (d' := d - 1) (bc' := 0) (bs' := 0) (ci := 6) (as := [_]) dX5_takeOut_20 w_1317 ok_X5_isStale (q_isStale p10M (k := k) (by omega) (mkT qm) (hI.2.2.2.2.2.2.1 k (by omega))) p10M.ob rfl (by omega) (Nat.le_of_ble_eq_true rfl) (Nat.zero_le _) (Nat.zero_le _) (fun E h' n' _ z => det_x z) (det_k ?_)
    refine sw_if_ne (pc' := 26) (tgt := 76) rfl dX5_takeOut_23 (by decide +kernel) (fun c23 => ?_) (fun c23 => ?_)
    · refine sw_aload_n (pc' := 77) rfl dX5_takeOut_76 rfl ?_
      refine sw_V (M' := MX5_no) (d' := d - 1) (bc' := 0) (bs' := 0) (ci := 6) (as := []) dX5_takeOut_77 w_1184 ok_X5_no (q_no p10M p10A) p10M.ob rfl (by omega) (Nat.le_of_ble_eq_true rfl) (Nat.zero_le _) (Nat.zero_le _) (fun E h' n' _ z => rp_x z) (rp_k (fun p77 p77ρ p77τ p77M p77A p77F => ?_))
      obtain ⟨Gp77, hGp77, eGp77⟩ := p77M.out
      refine sw_ret (v := some _) ⟨dX5_takeOut_80, _, rfl, rfl⟩ ?_
      rw [opTakeOut, onWk_k hk, if_neg qm, if_pos (Or.inl (bI_1 c23))]
      exact pm_k p77M p77A (p10F.tr p77F (Nat.le_refl _)) (Nat.le_refl _)
    · refine sw_aload_n (pc' := 27) rfl dX5_takeOut_26 rfl ?_
      refine sw_getf (ci := 6) (k := 7) (pc' := 30) rfl dX5_takeOut_27 (by decide +kernel) w_1120 p10M.ob rfl ?_
      refine sw_iload_n (pc' := 31) rfl dX5_takeOut_30 rfl ?_
      refine sw_iald (j := k) (pc' := 32) rfl dX5_takeOut_31 p10M.hw rfl (by omega) (by decide +kernel) ?_
      refine sw_iconst (pc' := 33) (v := 1) rfl dX5_takeOut_32 (by decide +kernel) ?_
      refine sw_icmp_ne (pc' := 36) (tgt := 76) rfl dX5_takeOut_33 (by decide +kernel) (fun c33 => ?_) (fun c33 => ?_)
      · refine sw_aload_n (pc' := 77) rfl dX5_takeOut_76 rfl ?_
        refine sw_V (M' := MX5_no) (d' := d - 1) (bc' := 0) (bs' := 0) (ci := 6) (as := []) dX5_takeOut_77 w_1184 ok_X5_no (q_no p10M p10A) p10M.ob rfl (by omega) (Nat.le_of_ble_eq_true rfl) (Nat.zero_le _) (Nat.zero_le _) (fun E h' n' _ z => rp_x z) (rp_k (fun p77 p77ρ p77τ p77M p77A p77F => ?_))
        obtain ⟨Gp77, hGp77, eGp77⟩ := p77M.out
        refine sw_ret (v := some _) ⟨dX5_takeOut_80, _, rfl, rfl⟩ ?_
        rw [opTakeOut, onWk_k hk, if_neg qm, if_pos (Or.inr (Or.inl c33))]
        exact pm_k p77M p77A (p10F.tr p77F (Nat.le_refl _)) (Nat.le_refl _)
      · refine sw_aload_n (pc' := 37) rfl dX5_takeOut_36 rfl ?_
        refine sw_getf (ci := 6) (k := 6) (pc' := 40) rfl dX5_takeOut_37 (by decide +kernel) w_1119 p10M.ob rfl ?_
        refine sw_iload_n (pc' := 41) rfl dX5_takeOut_40 rfl ?_
        refine sw_iald (j := k) (pc' := 42) rfl dX5_takeOut_41 p10M.sh rfl (by omega) (by decide +kernel) ?_
        rw [shF_m (k := k) (by omega) (mkT qm)]
        refine sw_bipush (pc' := 44) (v := 7) rfl dX5_takeOut_42 (by decide +kernel) ?_
        refine sw_icmp_eq (pc' := 47) (tgt := 76) rfl dX5_takeOut_44 (by decide +kernel) (fun c44 => ?_) (fun c44 => ?_)
        · refine sw_aload_n (pc' := 77) rfl dX5_takeOut_76 rfl ?_
          refine sw_V (M' := MX5_no) (d' := d - 1) (bc' := 0) (bs' := 0) (ci := 6) (as := []) dX5_takeOut_77 w_1184 ok_X5_no (q_no p10M p10A) p10M.ob rfl (by omega) (Nat.le_of_ble_eq_true rfl) (Nat.zero_le _) (Nat.zero_le _) (fun E h' n' _ z => rp_x z) (rp_k (fun p77 p77ρ p77τ p77M p77A p77F => ?_))
          obtain ⟨Gp77, hGp77, eGp77⟩ := p77M.out
          refine sw_ret (v := some _) ⟨dX5_takeOut_80, _, rfl, rfl⟩ ?_
          rw [opTakeOut, onWk_k hk, if_neg qm, if_pos (Or.inr (Or.inr (Or.inl c44)))]
          exact pm_k p77M p77A (p10F.tr p77F (Nat.le_refl _)) (Nat.le_refl _)
        · refine sw_aload_n (pc' := 48) rfl dX5_takeOut_47 rfl ?_
          refine sw_getf (ci := 6) (k := 11) (pc' := 51) rfl dX5_takeOut_48 (by decide +kernel) w_1124 p10M.ob rfl ?_
          refine sw_iload_n (pc' := 52) rfl dX5_takeOut_51 rfl ?_
          refine sw_zald (j := k) (pc' := 53) rfl dX5_takeOut_52 p10M.ct (by decide +kernel) rfl (by omega) (by decide +kernel) ?_
          refine sw_if_eq (pc' := 56) (tgt := 76) rfl dX5_takeOut_53 (by decide +kernel) (fun c53 => ?_) (fun c53 => ?_)
          · refine sw_aload_n (pc' := 77) rfl dX5_takeOut_76 rfl ?_
            refine sw_V (M' := MX5_no) (d' := d - 1) (bc' := 0) (bs' := 0) (ci := 6) (as := []) dX5_takeOut_77 w_1184 ok_X5_no (q_no p10M p10A) p10M.ob rfl (by omega) (Nat.le_of_ble_eq_true rfl) (Nat.zero_le _) (Nat.zero_le _) (fun E h' n' _ z => rp_x z) (rp_k (fun p77 p77ρ p77τ p77M p77A p77F => ?_))
            obtain ⟨Gp77, hGp77, eGp77⟩ := p77M.out
            refine sw_ret (v := some _) ⟨dX5_takeOut_80, _, rfl, rfl⟩ ?_
            rw [opTakeOut, onWk_k hk, if_neg qm, if_pos (Or.inr (Or.inr (Or.inr (wCt_f1 (bI_0 c53)))))]
            exact pm_k p77M p77A (p10F.tr p77F (Nat.le_refl _)) (Nat.le_refl _)
          · have e1 := p10A.2 k hk (bI_1 c53)
            obtain ⟨A, eA, hA1, hA2⟩ := hI.2.2.2.2.2.2.2 k hk (mkT qm) (bI_0 c23)
            have hA0 := hA2 (bI_1 c53)
            refine sw_aload_n (pc' := 57) rfl dX5_takeOut_56 rfl ?_
            refine sw_getf (ci := 6) (k := 13) (pc' := 60) rfl dX5_takeOut_57 (by decide +kernel) w_1126 p10M.ob rfl ?_
            refine sw_iload_n (pc' := 61) rfl dX5_takeOut_60 rfl ?_
            refine sw_iald (j := k) (pc' := 62) rfl dX5_takeOut_61 p10M.td rfl (by omega) (by decide +kernel) ?_
            refine sw_aload_n (pc' := 63) rfl dX5_takeOut_62 rfl ?_
            refine sw_getf (ci := 6) (k := 12) (pc' := 66) rfl dX5_takeOut_63 (by decide +kernel) w_1125 p10M.ob rfl ?_
            refine sw_aload_n (pc' := 67) rfl dX5_takeOut_66 rfl ?_
            refine sw_getf (ci := 6) (k := 6) (pc' := 70) rfl dX5_takeOut_67 (by decide +kernel) w_1119 p10M.ob rfl ?_
            refine sw_iload_n (pc' := 71) rfl dX5_takeOut_70 rfl ?_
            refine sw_iald (j := k) (pc' := 72) rfl dX5_takeOut_71 p10M.sh rfl (by omega) (by decide +kernel) ?_
            rw [shF_m (k := k) (by omega) (mkT qm)]
            refine sw_iald (j := wO σ k) (pc' := 73) rfl dX5_takeOut_72 p10M.tu rfl (by omega) (by decide +kernel) ?_
            refine sw_icmp_eq (pc' := 76) (tgt := 81) rfl dX5_takeOut_73 (by decide +kernel) (fun c73 => ?_) (fun c73 => ?_)
            · refine sw_aload_n (pc' := 82) rfl dX5_takeOut_81 rfl ?_
              refine sw_getf (ci := 6) (k := 10) (pc' := 85) rfl dX5_takeOut_82 (by decide +kernel) w_1123 p10M.ob rfl ?_
              refine sw_iload_n (pc' := 86) rfl dX5_takeOut_85 rfl ?_
              refine sw_dup2 (pc' := 87) rfl dX5_takeOut_86 rfl rfl ?_
              refine sw_iald (j := k) (pc' := 88) rfl dX5_takeOut_87 p10M.pl rfl (by omega) (by decide +kernel) ?_
              rw [eA]
              refine sw_iconst (pc' := 89) (v := 1) rfl dX5_takeOut_88 (by decide +kernel) ?_
              refine sw_isub (pc' := 90) rfl dX5_takeOut_89 ?_
              rw [nI_m1 hA0]
              refine sw_iast (j := k) (pc' := 91) rfl dX5_takeOut_90 p10M.pl (by decide +kernel) rfl (by omega) (by decide +kernel) ?_
              refine sw_nm (fun g1 eg1 => ?_)
              have zg1 := (congrFun eg1 154).trans (up_s (h := p10) (i := 154))
              have nM : MM g1 p10ρ _ (wU σ k ((σ.2.2.2.2.1 k).1, wO σ k, (σ.2.2.2.2.1 k).2.2.1, (σ.2.2.2.2.1 k).2.2.2.1, (σ.2.2.2.2.1 k).2.2.2.2.1 + 1, (σ.2.2.2.2.1 k).2.2.2.2.2.1, (σ.2.2.2.2.1 k).2.2.2.2.2.2.1, (σ.2.2.2.2.1 k).2.2.2.2.2.2.2)) (b3 false false false) := p10M.placeU hk eA hA0 zg1 (fun i h1 => (congrFun eg1 i).trans ((up_n h1).trans (rfl)))
              have nA := p10A.placeU (k := k) (m := (σ.2.2.2.2.1 k).1) (o := wO σ k) (a := (σ.2.2.2.2.1 k).2.2.1) (b := (σ.2.2.2.2.1 k).2.2.2.1) (c := (σ.2.2.2.2.1 k).2.2.2.2.1 + 1) (d := (σ.2.2.2.2.1 k).2.2.2.2.2.1) hk
              have nF : FrM h g1 n := p10F.tr (FrM.of1 (fun i q => (congrFun eg1 i).trans ((up_n (by omega)).trans (rfl)))) (Nat.le_refl _)
              obtain ⟨Gn, hGn, eGn⟩ := nM.out
              have e150n : shF (wU σ k ((σ.2.2.2.2.1 k).1, wO σ k, (σ.2.2.2.2.1 k).2.2.1, (σ.2.2.2.2.1 k).2.2.2.1, (σ.2.2.2.2.1 k).2.2.2.2.1 + 1, (σ.2.2.2.2.1 k).2.2.2.2.2.1, (σ.2.2.2.2.1 k).2.2.2.2.2.2.1, (σ.2.2.2.2.1 k).2.2.2.2.2.2.2)) k = nI (wO σ k) := (shF_m hk (by show (up σ.2.2.2.2.1 k _ k).1 = true; rw [up_s]; exact mkT qm)).trans (congrArg nI wO_wU)
              have ep154 : wAh (wU σ k ((σ.2.2.2.2.1 k).1, wO σ k, (σ.2.2.2.2.1 k).2.2.1, (σ.2.2.2.2.1 k).2.2.2.1, (σ.2.2.2.2.1 k).2.2.2.2.1 + 1, (σ.2.2.2.2.1 k).2.2.2.2.2.1, (σ.2.2.2.2.1 k).2.2.2.2.2.2.1, (σ.2.2.2.2.1 k).2.2.2.2.2.2.2)) k = nI (A - 1) := by
                        show (up σ.2.2.2.2.1 k _ k).2.2.2.1 - (up σ.2.2.2.2.1 k _ k).2.2.2.2.1 = _
                        rw [up_s]
                        show (σ.2.2.2.2.1 k).2.2.2.1 - ((σ.2.2.2.2.1 k).2.2.2.2.1 + 1) = _
                        rw [i_sub2, show (σ.2.2.2.2.1 k).2.2.2.1 - (σ.2.2.2.2.1 k).2.2.2.2.1 = nI A from eA, nI_m1 hA0]
              refine sw_aload_n (pc' := 92) rfl dX5_takeOut_91 rfl ?_
              refine sw_aload_n (pc' := 93) rfl dX5_takeOut_92 rfl ?_
              refine sw_getf (ci := 6) (k := 6) (pc' := 96) rfl dX5_takeOut_93 (by decide +kernel) w_1119 nM.ob rfl ?_
              refine sw_iload_n (pc' := 97) rfl dX5_takeOut_96 rfl ?_
              refine sw_iald (j := k) (pc' := 98) rfl dX5_takeOut_97 nM.sh rfl (by omega) (by decide +kernel) ?_
              rw [e150n]
              refine sw_aload_n (pc' := 99) rfl dX5_takeOut_98 rfl ?_
              refine sw_getf (ci := 6) (k := 10) (pc' := 102) rfl dX5_takeOut_99 (by decide +kernel) w_1123 nM.ob rfl ?_
              refine sw_iload_n (pc' := 103) rfl dX5_takeOut_102 rfl ?_
              refine sw_iald (j := k) (pc' := 104) rfl dX5_takeOut_103 nM.pl rfl (by omega) (by decide +kernel) ?_
              rw [ep154]
              refine sw_V (M' := MX5_leave) (d' := d - 1) (bc' := 0) (bs' := 0) (ci := 6) (as := [_, _]) dX5_takeOut_104 w_1223 ok_X5_leave (q_leave nM nA (k := wO σ k) (p := A - 1) (by omega) (hI.1 (wO σ k) (by omega)) (fun _ => (show A - 1 < σ.2.1 (wO σ k) by omega)) (lv6 (σ := σ) hI ovk (p := A - 1) (by omega)) (by omega)) nM.ob rfl (by omega) (Nat.le_of_ble_eq_true rfl) (Nat.zero_le _) (Nat.zero_le _) (fun E h' n' _ z => rp_x z) (rp_k (fun p104 p104ρ p104τ p104M p104A p104F => ?_))
              obtain ⟨Gp104, hGp104, eGp104⟩ := p104M.out
              have e150 : shF (liU (wU σ k ((σ.2.2.2.2.1 k).1, wO σ k, (σ.2.2.2.2.1 k).2.2.1, (σ.2.2.2.2.1 k).2.2.2.1, (σ.2.2.2.2.1 k).2.2.2.2.1 + 1, (σ.2.2.2.2.1 k).2.2.2.2.2.1, (σ.2.2.2.2.1 k).2.2.2.2.2.2.1, (σ.2.2.2.2.1 k).2.2.2.2.2.2.2)) (wO σ k) (A - 1)) k = nI (wO σ k) := by
                        unfold shF wO
                        rw [liU_wk]
                        exact e150n
              have eT : wU (liU (wU σ k ((σ.2.2.2.2.1 k).1, wO σ k, (σ.2.2.2.2.1 k).2.2.1, (σ.2.2.2.2.1 k).2.2.2.1, (σ.2.2.2.2.1 k).2.2.2.2.1 + 1, (σ.2.2.2.2.1 k).2.2.2.2.2.1, (σ.2.2.2.2.1 k).2.2.2.2.2.2.1, (σ.2.2.2.2.1 k).2.2.2.2.2.2.2)) (wO σ k) (A - 1)) k (((liU (wU σ k ((σ.2.2.2.2.1 k).1, wO σ k, (σ.2.2.2.2.1 k).2.2.1, (σ.2.2.2.2.1 k).2.2.2.1, (σ.2.2.2.2.1 k).2.2.2.2.1 + 1, (σ.2.2.2.2.1 k).2.2.2.2.2.1, (σ.2.2.2.2.1 k).2.2.2.2.2.2.1, (σ.2.2.2.2.1 k).2.2.2.2.2.2.2)) (wO σ k) (A - 1)).2.2.2.2.1 k).1, wO (liU (wU σ k ((σ.2.2.2.2.1 k).1, wO σ k, (σ.2.2.2.2.1 k).2.2.1, (σ.2.2.2.2.1 k).2.2.2.1, (σ.2.2.2.2.1 k).2.2.2.2.1 + 1, (σ.2.2.2.2.1 k).2.2.2.2.2.1, (σ.2.2.2.2.1 k).2.2.2.2.2.2.1, (σ.2.2.2.2.1 k).2.2.2.2.2.2.2)) (wO σ k) (A - 1)) k, ((liU (wU σ k ((σ.2.2.2.2.1 k).1, wO σ k, (σ.2.2.2.2.1 k).2.2.1, (σ.2.2.2.2.1 k).2.2.2.1, (σ.2.2.2.2.1 k).2.2.2.2.1 + 1, (σ.2.2.2.2.1 k).2.2.2.2.2.1, (σ.2.2.2.2.1 k).2.2.2.2.2.2.1, (σ.2.2.2.2.1 k).2.2.2.2.2.2.2)) (wO σ k) (A - 1)).2.2.2.2.1 k).2.2.1, ((liU (wU σ k ((σ.2.2.2.2.1 k).1, wO σ k, (σ.2.2.2.2.1 k).2.2.1, (σ.2.2.2.2.1 k).2.2.2.1, (σ.2.2.2.2.1 k).2.2.2.2.1 + 1, (σ.2.2.2.2.1 k).2.2.2.2.2.1, (σ.2.2.2.2.1 k).2.2.2.2.2.2.1, (σ.2.2.2.2.1 k).2.2.2.2.2.2.2)) (wO σ k) (A - 1)).2.2.2.2.1 k).2.2.2.1, ((liU (wU σ k ((σ.2.2.2.2.1 k).1, wO σ k, (σ.2.2.2.2.1 k).2.2.1, (σ.2.2.2.2.1 k).2.2.2.1, (σ.2.2.2.2.1 k).2.2.2.2.1 + 1, (σ.2.2.2.2.1 k).2.2.2.2.2.1, (σ.2.2.2.2.1 k).2.2.2.2.2.2.1, (σ.2.2.2.2.1 k).2.2.2.2.2.2.2)) (wO σ k) (A - 1)).2.2.2.2.1 k).2.2.2.2.1, (liU (wU σ k ((σ.2.2.2.2.1 k).1, wO σ k, (σ.2.2.2.2.1 k).2.2.1, (σ.2.2.2.2.1 k).2.2.2.1, (σ.2.2.2.2.1 k).2.2.2.2.1 + 1, (σ.2.2.2.2.1 k).2.2.2.2.2.1, (σ.2.2.2.2.1 k).2.2.2.2.2.2.1, (σ.2.2.2.2.1 k).2.2.2.2.2.2.2)) (wO σ k) (A - 1)).2.2.1 (wO σ k), ((liU (wU σ k ((σ.2.2.2.2.1 k).1, wO σ k, (σ.2.2.2.2.1 k).2.2.1, (σ.2.2.2.2.1 k).2.2.2.1, (σ.2.2.2.2.1 k).2.2.2.2.1 + 1, (σ.2.2.2.2.1 k).2.2.2.2.2.1, (σ.2.2.2.2.1 k).2.2.2.2.2.2.1, (σ.2.2.2.2.1 k).2.2.2.2.2.2.2)) (wO σ k) (A - 1)).2.2.2.2.1 k).2.2.2.2.2.2.1, false) = toU σ k (liU σ (wO σ k) (A - 1)) := by
                        unfold wO
                        rw [liU_wk, liU_wU, wU_wU, wk_wU]
                        rfl
              refine sw_aload_n (pc' := 108) rfl dX5_takeOut_107 rfl ?_
              refine sw_getf (ci := 6) (k := 11) (pc' := 111) rfl dX5_takeOut_108 (by decide +kernel) w_1124 p104M.ob rfl ?_
              refine sw_iload_n (pc' := 112) rfl dX5_takeOut_111 rfl ?_
              refine sw_iconst (pc' := 113) (v := 0) rfl dX5_takeOut_112 (by decide +kernel) ?_
              refine sw_zast (j := k) (pc' := 114) rfl dX5_takeOut_113 p104M.ct (by decide +kernel) rfl (by omega) (by decide +kernel) ?_
              refine sw_nm (fun g2 eg2 => ?_)
              have zg2 := (congrFun eg2 155).trans (up_s (h := p104) (i := 155))
              refine sw_aload_n (pc' := 115) rfl dX5_takeOut_114 rfl ?_
              refine sw_getf (ci := 6) (k := 9) (pc' := 118) rfl dX5_takeOut_115 (by decide +kernel) w_1122 (((congrFun eg2 135).trans (up_n (by omega))).trans p104M.ob) rfl ?_
              refine sw_iload_n (pc' := 119) rfl dX5_takeOut_118 rfl ?_
              refine sw_aload_n (pc' := 120) rfl dX5_takeOut_119 rfl ?_
              refine sw_getf (ci := 6) (k := 5) (pc' := 123) rfl dX5_takeOut_120 (by decide +kernel) w_1118 (((congrFun eg2 135).trans (up_n (by omega))).trans p104M.ob) rfl ?_
              refine sw_aload_n (pc' := 124) rfl dX5_takeOut_123 rfl ?_
              refine sw_getf (ci := 6) (k := 6) (pc' := 127) rfl dX5_takeOut_124 (by decide +kernel) w_1119 (((congrFun eg2 135).trans (up_n (by omega))).trans p104M.ob) rfl ?_
              refine sw_iload_n (pc' := 128) rfl dX5_takeOut_127 rfl ?_
              refine sw_iald (j := k) (pc' := 129) rfl dX5_takeOut_128 (((congrFun eg2 150).trans (up_n (by omega))).trans p104M.sh) rfl (by omega) (by decide +kernel) ?_
              rw [e150]
              refine sw_iald (j := wO σ k) (pc' := 130) rfl dX5_takeOut_129 (((congrFun eg2 149).trans (up_n (by omega))).trans p104M.sf) rfl (by omega) (by decide +kernel) ?_
              refine sw_iast (j := k) (pc' := 131) rfl dX5_takeOut_130 (((congrFun eg2 153).trans (up_n (by omega))).trans p104M.st) (by decide +kernel) rfl (by omega) (by decide +kernel) ?_
              refine sw_nm (fun g3 eg3 => ?_)
              have zg3 := (congrFun eg3 153).trans (up_s (h := g2) (i := 153))
              refine sw_aload_n (pc' := 132) rfl dX5_takeOut_131 rfl ?_
              refine sw_getf (ci := 6) (k := 4) (pc' := 135) rfl dX5_takeOut_132 (by decide +kernel) w_1117 (((congrFun eg3 135).trans (up_n (by omega))).trans (((congrFun eg2 135).trans (up_n (by omega))).trans p104M.ob)) rfl ?_
              refine sw_aload_n (pc' := 136) rfl dX5_takeOut_135 rfl ?_
              refine sw_getf (ci := 6) (k := 6) (pc' := 139) rfl dX5_takeOut_136 (by decide +kernel) w_1119 (((congrFun eg3 135).trans (up_n (by omega))).trans (((congrFun eg2 135).trans (up_n (by omega))).trans p104M.ob)) rfl ?_
              refine sw_iload_n (pc' := 140) rfl dX5_takeOut_139 rfl ?_
              refine sw_iald (j := k) (pc' := 141) rfl dX5_takeOut_140 (((congrFun eg3 150).trans (up_n (by omega))).trans (((congrFun eg2 150).trans (up_n (by omega))).trans p104M.sh)) rfl (by omega) (by decide +kernel) ?_
              rw [e150]
              refine sw_iald (j := wO σ k) (pc' := 142) rfl dX5_takeOut_141 (((congrFun eg3 148).trans (up_n (by omega))).trans (((congrFun eg2 148).trans (up_n (by omega))).trans p104M.sz)) rfl (by omega) (by decide +kernel) ?_
              rw [liU_wU]
              show SW _ _ _ _ _ _ _ (.int (nI ((liU σ (wO σ k) (A - 1)).2.1 (wO σ k))) :: _) _ _ _
              refine sw_ret (v := some _) ⟨dX5_takeOut_142, _, rfl, rfl⟩ ?_
              have qM := p104M.stampU hk (s := wO σ k) e150 (((congrFun eg3 155).trans (up_n (by omega))).trans zg2) zg3 (fun i h1 h2 => (congrFun eg3 i).trans ((up_n (by omega)).trans ((congrFun eg2 i).trans ((up_n (by omega)).trans (rfl)))))
              have qA := p104A.stampU (k := k) (m := (((liU (wU σ k ((σ.2.2.2.2.1 k).1, wO σ k, (σ.2.2.2.2.1 k).2.2.1, (σ.2.2.2.2.1 k).2.2.2.1, (σ.2.2.2.2.1 k).2.2.2.2.1 + 1, (σ.2.2.2.2.1 k).2.2.2.2.2.1, (σ.2.2.2.2.1 k).2.2.2.2.2.2.1, (σ.2.2.2.2.1 k).2.2.2.2.2.2.2)) (wO σ k) (A - 1))).2.2.2.2.1 k).1) (o := wO ((liU (wU σ k ((σ.2.2.2.2.1 k).1, wO σ k, (σ.2.2.2.2.1 k).2.2.1, (σ.2.2.2.2.1 k).2.2.2.1, (σ.2.2.2.2.1 k).2.2.2.2.1 + 1, (σ.2.2.2.2.1 k).2.2.2.2.2.1, (σ.2.2.2.2.1 k).2.2.2.2.2.2.1, (σ.2.2.2.2.1 k).2.2.2.2.2.2.2)) (wO σ k) (A - 1))) k) (a := (((liU (wU σ k ((σ.2.2.2.2.1 k).1, wO σ k, (σ.2.2.2.2.1 k).2.2.1, (σ.2.2.2.2.1 k).2.2.2.1, (σ.2.2.2.2.1 k).2.2.2.2.1 + 1, (σ.2.2.2.2.1 k).2.2.2.2.2.1, (σ.2.2.2.2.1 k).2.2.2.2.2.2.1, (σ.2.2.2.2.1 k).2.2.2.2.2.2.2)) (wO σ k) (A - 1))).2.2.2.2.1 k).2.2.1) (b := (((liU (wU σ k ((σ.2.2.2.2.1 k).1, wO σ k, (σ.2.2.2.2.1 k).2.2.1, (σ.2.2.2.2.1 k).2.2.2.1, (σ.2.2.2.2.1 k).2.2.2.2.1 + 1, (σ.2.2.2.2.1 k).2.2.2.2.2.1, (σ.2.2.2.2.1 k).2.2.2.2.2.2.1, (σ.2.2.2.2.1 k).2.2.2.2.2.2.2)) (wO σ k) (A - 1))).2.2.2.2.1 k).2.2.2.1) (c := (((liU (wU σ k ((σ.2.2.2.2.1 k).1, wO σ k, (σ.2.2.2.2.1 k).2.2.1, (σ.2.2.2.2.1 k).2.2.2.1, (σ.2.2.2.2.1 k).2.2.2.2.1 + 1, (σ.2.2.2.2.1 k).2.2.2.2.2.1, (σ.2.2.2.2.1 k).2.2.2.2.2.2.1, (σ.2.2.2.2.1 k).2.2.2.2.2.2.2)) (wO σ k) (A - 1))).2.2.2.2.1 k).2.2.2.2.1) (d := ((liU (wU σ k ((σ.2.2.2.2.1 k).1, wO σ k, (σ.2.2.2.2.1 k).2.2.1, (σ.2.2.2.2.1 k).2.2.2.1, (σ.2.2.2.2.1 k).2.2.2.2.1 + 1, (σ.2.2.2.2.1 k).2.2.2.2.2.1, (σ.2.2.2.2.1 k).2.2.2.2.2.2.1, (σ.2.2.2.2.1 k).2.2.2.2.2.2.2)) (wO σ k) (A - 1))).2.2.1 (wO σ k)) (e := (((liU (wU σ k ((σ.2.2.2.2.1 k).1, wO σ k, (σ.2.2.2.2.1 k).2.2.1, (σ.2.2.2.2.1 k).2.2.2.1, (σ.2.2.2.2.1 k).2.2.2.2.1 + 1, (σ.2.2.2.2.1 k).2.2.2.2.2.1, (σ.2.2.2.2.1 k).2.2.2.2.2.2.1, (σ.2.2.2.2.1 k).2.2.2.2.2.2.2)) (wO σ k) (A - 1))).2.2.2.2.1 k).2.2.2.2.2.2.1)
              rw [opTakeOut, onWk_k hk, if_neg qm, if_neg (fun q => q.elim (fun e => Bool.noConfusion (e.symm.trans (bI_0 c23))) (fun q => q.elim (fun e => e c33) (fun q => q.elim c44 (fun e => Bool.noConfusion (e.symm.trans (wCt_t (bI_1 c53) (e1.symm.trans c73))))))), tcl (by omega) eA]
              exact pm_k (eT ▸ qM) (eT ▸ qA) ((nF.tr p104F (Nat.le_refl _)).tr (FrM.of1 (fun i q => (congrFun eg3 i).trans ((up_n (by omega)).trans ((congrFun eg2 i).trans ((up_n (by omega)).trans (rfl)))))) (Nat.le_refl _)) (Nat.le_refl _)
            · refine sw_aload_n (pc' := 77) rfl dX5_takeOut_76 rfl ?_
              refine sw_V (M' := MX5_no) (d' := d - 1) (bc' := 0) (bs' := 0) (ci := 6) (as := []) dX5_takeOut_77 w_1184 ok_X5_no (q_no p10M p10A) p10M.ob rfl (by omega) (Nat.le_of_ble_eq_true rfl) (Nat.zero_le _) (Nat.zero_le _) (fun E h' n' _ z => rp_x z) (rp_k (fun p77 p77ρ p77τ p77M p77A p77F => ?_))
              obtain ⟨Gp77, hGp77, eGp77⟩ := p77M.out
              refine sw_ret (v := some _) ⟨dX5_takeOut_80, _, rfl, rfl⟩ ?_
              rw [opTakeOut, onWk_k hk, if_neg qm, if_pos (Or.inr (Or.inr (Or.inr (wCt_f2 (fun e => c73 (e1.trans e))))))]
              exact pm_k p77M p77A (p10F.tr p77F (Nat.le_refl _)) (Nat.le_refl _)
  · exact absurd c13 (by decide +kernel)
