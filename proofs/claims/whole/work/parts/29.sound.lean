/-! isItsList, isItsListBehindOneStep -/
def PgL (h : AH) (r : Option Value) (n : Nat) : ARes → AH → Nat → Prop := fun r' h' n' => r' = .inl r ∧ n' = n ∧ PrW h' 131 ∧ PrW h' 132 ∧ (∃ f c s t, ShF h' 133 1 f c s t) ∧ ∀ i, i < 131 ∨ 135 ≤ i → h' i = h i
theorem alB_of {f g : Nat → Int32} {m : Nat} : ∀ {j : Nat}, (∀ i, j ≤ i → i < j + m → f i = g i) → alB f g j m = true := by
  induction m with
  | zero => intro j _; rfl
  | succ m ih =>
    intro j h
    rw [alB, decide_eq_true (h j (Nat.le_refl _) (by omega)), Bool.true_and]
    exact ih (fun i h1 h2 => h i (by omega) (by omega))
theorem hsB_of {f g : Nat → Int32} {c e : Nat} (hc : c = e) (h : ∀ i, i < c → f i = g i) : hsB f g c e = true := by
  rw [hsB, decide_eq_true hc, Bool.true_and]
  exact alB_of (fun i _ h2 => h i (by omega))
theorem la_bl {f g : Nat → Int32} {c i : Nat} (hi : i < c) : laN (blN g f 1 (c - 1)) 0 (f 0) (c - 1) i = f i := by
  unfold laN
  by_cases e : i = 0
  · subst e
    exact up_s
  · rw [up_n e]
    unfold mvN blN
    rw [if_pos (by omega), if_pos (by omega)]
    congr 1
    omega
theorem m_isItsList {h : AH} {σ : CS} {d bc bs n k : Nat} (hR : RC h σ) (hk : k < 11) (hd : 5 ≤ d) : SM SR0 MX3_isItsList d bc bs [.ref 100, .int (nI k)] h n (PgL h (some (.int 1)) n) := by
  obtain ⟨g, ga, gb⟩ := hR.2.1
  obtain ⟨mk1, b1, a1, a2, a3, a4, a5, a6, l1, P1⟩ := hR.2.2.2.2.2.1
  obtain ⟨fp, cp, sp, tp, PL⟩ := hR.2.2.2.2.2.2.2.1
  have hS := hR.sh hk
  have hc := hS.2.2.1
  have hne1 : 102 + 2 * k ≠ 131 ∧ 102 + 2 * k + 1 ≠ 131 := by omega
  refine sm_of pn_Overwalks rfl (Nat.le_of_ble_eq_true rfl) ?_
  refine sw_aload_n (pc' := 1) rfl dX3_isItsList_0 rfl ?_
  refine sw_getf (ci := 4) (k := 2) (pc' := 4) rfl dX3_isItsList_1 (by decide +kernel) w_152 hR.1 rfl ?_
  refine sw_aload_n (pc' := 5) rfl dX3_isItsList_4 rfl ?_
  refine sw_getf (ci := 4) (k := 0) (pc' := 8) rfl dX3_isItsList_5 (by decide +kernel) w_150 hR.1 rfl ?_
  refine sw_iload_n (pc' := 9) rfl dX3_isItsList_8 rfl ?_
  refine sw_aald (pc' := 10) rfl dX3_isItsList_9 ga (by decide +kernel) (by decide +kernel) rfl hk (by decide +kernel) (gb k hk) ?_
  refine sw_iload_n (pc' := 11) rfl dX3_isItsList_10 rfl ?_
  refine sw_iconst (pc' := 12) (v := 0) rfl dX3_isItsList_11 (by decide +kernel) ?_
  refine sw_V (M' := MX2_begin) (d' := d - 1) (bc' := 0) (bs' := 0) (ci := 3) (as := [_, _, _]) dX3_isItsList_12 w_184 ok_X2_begin (m_begin P1 hS hne1) P1.1 rfl (by omega) (Nat.le_of_ble_eq_true rfl) (Nat.zero_le _) (Nat.zero_le _) (fun E h' n' _ z => wkp_x z) (wkp_k (fun p pW pF => ?_))
  have Sp := hS.frW pF hne1
  refine sw_aload_n (pc' := 16) rfl dX3_isItsList_15 rfl ?_
  refine sw_getf (ci := 4) (k := 2) (pc' := 19) rfl dX3_isItsList_16 (by decide +kernel) w_152 ((pF 100 (by omega)).trans hR.1) rfl ?_
  refine sw_aload_n (pc' := 20) rfl dX3_isItsList_19 rfl ?_
  refine sw_getf (ci := 4) (k := 4) (pc' := 23) rfl dX3_isItsList_20 (by decide +kernel) w_154 ((pF 100 (by omega)).trans hR.1) rfl ?_
  refine sw_S (M' := MX3_listRest) (d' := d - 1) (bc' := 0) (bs' := 0) (as := [_, _]) dX3_isItsList_23 w_212 ok_X3_listRest (m_listRest (A := 0) pW Sp (PL.frW pF (by decide +kernel)) ⟨hne1, by decide +kernel⟩ (by omega) rfl (Nat.zero_le _) (by omega)) (by omega) (Nat.le_of_ble_eq_true rfl) (Nat.zero_le _) (Nat.zero_le _) (fun E h' n' _ z => lr_x z) (lr_k (fun o oW oS oF => ?_))
  have So : ShF o (102 + 2 * k) (kdO k) (σ.1 k) (σ.2.1 k) (σ.2.2.1 k) (σ.2.2.2.1 k) := ⟨(oF _ hne1.1 (by omega) (by omega)).trans Sp.1, (oF _ hne1.2 (by omega) (by omega)).trans Sp.2.1, Sp.2.2⟩
  refine sw_pop (pc' := 27) rfl dX3_isItsList_26 rfl ?_
  refine sw_aload_n (pc' := 28) rfl dX3_isItsList_27 rfl ?_
  refine sw_getf (ci := 4) (k := 4) (pc' := 31) rfl dX3_isItsList_28 (by decide +kernel) w_154 ((oF 100 (by omega) (by omega) (by omega)).trans ((pF 100 (by omega)).trans hR.1)) rfl ?_
  refine sw_aload_n (pc' := 32) rfl dX3_isItsList_31 rfl ?_
  refine sw_getf (ci := 4) (k := 0) (pc' := 35) rfl dX3_isItsList_32 (by decide +kernel) w_150 ((oF 100 (by omega) (by omega) (by omega)).trans ((pF 100 (by omega)).trans hR.1)) rfl ?_
  refine sw_iload_n (pc' := 36) rfl dX3_isItsList_35 rfl ?_
  refine sw_aald (pc' := 37) rfl dX3_isItsList_36 ((oF 101 (by omega) (by omega) (by omega)).trans ((pF 101 (by omega)).trans ga)) (by decide +kernel) (by decide +kernel) rfl hk (by decide +kernel) (gb k hk) ?_
  refine sw_S (M' := MX3_haveTheSame) (d' := d - 1) (bc' := 0) (bs' := 0) (as := [_, _]) dX3_isItsList_37 w_227 ok_X3_haveTheSame (m_haveTheSame oS So (by omega)) (by omega) (Nat.le_of_ble_eq_true rfl) (Nat.zero_le _) (Nat.zero_le _) (fun E h' n' _ z => det_x z) (det_k ?_)
  rw [hsB_of (f := blN fp (σ.1 k) 0 (σ.2.1 k - 0)) (g := σ.1 k) (c := σ.2.1 k - 0) (e := σ.2.1 k) rfl (fun i hi => (if_pos hi).trans (by rw [Nat.zero_add]))]
  refine sw_ret (v := some _) ⟨dX3_isItsList_40, _, rfl, rfl⟩ ?_
  obtain ⟨mk2, b2, d1, d2, d3, d4, d5, d6, l2, P2⟩ := hR.2.2.2.2.2.2.1
  exact ⟨rfl, rfl, oW.pr, ⟨mk2, b2, d1, d2, d3, d4, d5, d6, l2, ⟨(oF 132 (by decide +kernel) (by decide +kernel) (by decide +kernel)).trans ((pF 132 (by decide +kernel)).trans P2.1), P2.2⟩⟩, ⟨_, _, _, _, oS⟩, fun i hi => (oF i (by omega) (by omega) (by omega)).trans (pF i (by omega))⟩
theorem m_isItsListBehindOneStep {h : AH} {σ : CS} {d bc bs n k : Nat} (hR : RC h σ) (hk : k < 11) (hd : 5 ≤ d) : SM SR0 MX3_isItsListBehindOneStep d bc bs [.ref 100, .int (nI k)] h n (PgL h (some (.int 1)) n) := by
  obtain ⟨g, ga, gb⟩ := hR.2.1
  obtain ⟨mk1, b1, a1, a2, a3, a4, a5, a6, l1, P1⟩ := hR.2.2.2.2.2.1
  obtain ⟨fp, cp, sp, tp, PL⟩ := hR.2.2.2.2.2.2.2.1
  have hS := hR.sh hk
  have hc := hS.2.2.1
  have hne1 : 102 + 2 * k ≠ 131 ∧ 102 + 2 * k + 1 ≠ 131 := by omega
  refine sm_of pn_Overwalks rfl (Nat.le_of_ble_eq_true rfl) ?_
  refine sw_aload_n (pc' := 1) rfl dX3_isItsListBehindOneStep_0 rfl ?_
  refine sw_getf (ci := 4) (k := 0) (pc' := 4) rfl dX3_isItsListBehindOneStep_1 (by decide +kernel) w_150 hR.1 rfl ?_
  refine sw_iload_n (pc' := 5) rfl dX3_isItsListBehindOneStep_4 rfl ?_
  refine sw_aald (pc' := 6) rfl dX3_isItsListBehindOneStep_5 ga (by decide +kernel) (by decide +kernel) rfl hk (by decide +kernel) (gb k hk) ?_
  refine sw_astore_n (pc' := 7) (lv' := [(2, _), (0, _), (1, _)]) rfl dX3_isItsListBehindOneStep_6 (by decide +kernel) rfl ?_
  refine sw_aload_n (pc' := 8) rfl dX3_isItsListBehindOneStep_7 rfl ?_
  refine sw_getf (ci := 2) (k := 2) (pc' := 11) rfl dX3_isItsListBehindOneStep_8 (by decide +kernel) w_84 hS.1 rfl ?_
  refine sw_if_ne (pc' := 14) (tgt := 16) rfl dX3_isItsListBehindOneStep_11 (by decide +kernel) (fun c11 => ?_) (fun c11 => ?_)
  · refine sw_aload_n (pc' := 17) rfl dX3_isItsListBehindOneStep_16 rfl ?_
    refine sw_getf (ci := 4) (k := 2) (pc' := 20) rfl dX3_isItsListBehindOneStep_17 (by decide +kernel) w_152 hR.1 rfl ?_
    refine sw_aload_n (pc' := 21) rfl dX3_isItsListBehindOneStep_20 rfl ?_
    refine sw_iload_n (pc' := 22) rfl dX3_isItsListBehindOneStep_21 rfl ?_
    refine sw_iconst (pc' := 23) (v := 0) rfl dX3_isItsListBehindOneStep_22 (by decide +kernel) ?_
    refine sw_V (M' := MX2_begin) (d' := d - 1) (bc' := 0) (bs' := 0) (ci := 3) (as := [_, _, _]) dX3_isItsListBehindOneStep_23 w_184 ok_X2_begin (m_begin P1 hS hne1) P1.1 rfl (by omega) (Nat.le_of_ble_eq_true rfl) (Nat.zero_le _) (Nat.zero_le _) (fun E h' n' _ z => wkp_x z) (wkp_k (fun p pW pF => ?_))
    have Sp := hS.frW pF hne1
    refine sw_aload_n (pc' := 27) rfl dX3_isItsListBehindOneStep_26 rfl ?_
    refine sw_getf (ci := 4) (k := 2) (pc' := 30) rfl dX3_isItsListBehindOneStep_27 (by decide +kernel) w_152 ((pF 100 (by omega)).trans hR.1) rfl ?_
    refine sw_V (M' := MX2_give) (d' := d - 1) (bc' := 0) (bs' := 0) (ci := 3) (as := []) dX3_isItsListBehindOneStep_30 w_200 ok_X2_give (m_give pW Sp hne1 (by omega)) pW.1 rfl (by omega) (Nat.le_of_ble_eq_true rfl) (Nat.zero_le _) (Nat.zero_le _) (fun E h' n' _ z => wkp_x z) (wkp_k (fun o oW oF => ?_))
    have So := Sp.frW oF hne1
    have hc0 : 0 < σ.2.1 k := Nat.pos_of_ne_zero (fun e => c11 (by rw [e]; rfl))
    rw [show taI (σ.1 k) (σ.2.1 k) ((0 : Int32) - 0) = σ.1 k 0 from taI_in hc0 hc]
    refine sw_istore_n (pc' := 34) (lv' := [(3, _), (2, _), (0, _), (1, _)]) rfl dX3_isItsListBehindOneStep_33 (by decide +kernel) rfl ?_
    refine sw_aload_n (pc' := 35) rfl dX3_isItsListBehindOneStep_34 rfl ?_
    refine sw_getf (ci := 4) (k := 2) (pc' := 38) rfl dX3_isItsListBehindOneStep_35 (by decide +kernel) w_152 ((oF 100 (by omega)).trans ((pF 100 (by omega)).trans hR.1)) rfl ?_
    refine sw_aload_n (pc' := 39) rfl dX3_isItsListBehindOneStep_38 rfl ?_
    refine sw_getf (ci := 4) (k := 4) (pc' := 42) rfl dX3_isItsListBehindOneStep_39 (by decide +kernel) w_154 ((oF 100 (by omega)).trans ((pF 100 (by omega)).trans hR.1)) rfl ?_
    refine sw_S (M' := MX3_listRest) (d' := d - 1) (bc' := 0) (bs' := 0) (as := [_, _]) dX3_isItsListBehindOneStep_42 w_212 ok_X3_listRest (m_listRest (A := 1) oW So ((PL.frW pF (by decide +kernel)).frW oF (by decide +kernel)) ⟨hne1, by decide +kernel⟩ (by omega) rfl hc0 (by omega)) (by omega) (Nat.le_of_ble_eq_true rfl) (Nat.zero_le _) (Nat.zero_le _) (fun E h' n' _ z => lr_x z) (lr_k (fun r rW rS rF => ?_))
    refine sw_pop (pc' := 46) rfl dX3_isItsListBehindOneStep_45 rfl ?_
    refine sw_aload_n (pc' := 47) rfl dX3_isItsListBehindOneStep_46 rfl ?_
    refine sw_getf (ci := 4) (k := 4) (pc' := 50) rfl dX3_isItsListBehindOneStep_47 (by decide +kernel) w_154 ((rF 100 (by omega) (by omega) (by omega)).trans ((oF 100 (by omega)).trans ((pF 100 (by omega)).trans hR.1))) rfl ?_
    refine sw_iconst (pc' := 51) (v := 0) rfl dX3_isItsListBehindOneStep_50 (by decide +kernel) ?_
    refine sw_iload_n (pc' := 52) rfl dX3_isItsListBehindOneStep_51 rfl ?_
    refine sw_V (M' := MX1_layAhead) (d' := d - 1) (bc' := 0) (bs' := 0) (ci := 2) (as := [_, _]) dX3_isItsListBehindOneStep_52 w_235 ok_X1_layAhead (m_layAhead (j := 0) rS (Nat.zero_le _) (by omega)) rS.1 rfl (by omega) (Nat.le_of_ble_eq_true rfl) (Nat.zero_le _) (Nat.zero_le _) (fun E h' n' _ z => shp_x z) (shp_k (fun u uS uF => ?_))
    have hF : ∀ i, i < 131 ∨ 135 ≤ i → u i = h i := fun i hi => (uF i (by omega) (by omega)).trans ((rF i (by omega) (by omega) (by omega)).trans ((oF i (by omega)).trans (pF i (by omega))))
    have Su : ShF u (102 + 2 * k) (kdO k) (σ.1 k) (σ.2.1 k) (σ.2.2.1 k) (σ.2.2.2.1 k) := ⟨(hF _ (by omega)).trans hS.1, (hF _ (by omega)).trans hS.2.1, hS.2.2⟩
    refine sw_pop (pc' := 56) rfl dX3_isItsListBehindOneStep_55 rfl ?_
    refine sw_aload_n (pc' := 57) rfl dX3_isItsListBehindOneStep_56 rfl ?_
    refine sw_getf (ci := 4) (k := 4) (pc' := 60) rfl dX3_isItsListBehindOneStep_57 (by decide +kernel) w_154 ((hF 100 (by omega)).trans hR.1) rfl ?_
    refine sw_aload_n (pc' := 61) rfl dX3_isItsListBehindOneStep_60 rfl ?_
    refine sw_S (M' := MX3_haveTheSame) (d' := d - 1) (bc' := 0) (bs' := 0) (as := [_, _]) dX3_isItsListBehindOneStep_61 w_227 ok_X3_haveTheSame (m_haveTheSame uS Su (by omega)) (by omega) (Nat.le_of_ble_eq_true rfl) (Nat.zero_le _) (Nat.zero_le _) (fun E h' n' _ z => det_x z) (det_k ?_)
    rw [hsB_of (f := laN (blN fp (σ.1 k) 1 (σ.2.1 k - 1)) 0 (σ.1 k 0) (σ.2.1 k - 1)) (g := σ.1 k) (c := σ.2.1 k - 1 + 1) (e := σ.2.1 k) (by omega) (fun i hi => la_bl (by omega))]
    refine sw_ret (v := some _) ⟨dX3_isItsListBehindOneStep_64, _, rfl, rfl⟩ ?_
    obtain ⟨mk2, b2, d1, d2, d3, d4, d5, d6, l2, P2⟩ := hR.2.2.2.2.2.2.1
    exact ⟨rfl, rfl, (rW.frS uF (by decide +kernel)).pr, ⟨mk2, b2, d1, d2, d3, d4, d5, d6, l2, ⟨(uF 132 (by decide +kernel) (by decide +kernel)).trans ((rF 132 (by decide +kernel) (by decide +kernel) (by decide +kernel)).trans ((oF 132 (by decide +kernel)).trans ((pF 132 (by decide +kernel)).trans P2.1))), P2.2⟩⟩, ⟨_, _, _, _, uS⟩, hF⟩
  · refine sw_iconst (pc' := 15) (v := 1) rfl dX3_isItsListBehindOneStep_14 (by decide +kernel) ?_
    refine sw_ret (v := some _) ⟨dX3_isItsListBehindOneStep_15, _, rfl, rfl⟩ ?_
    exact ⟨rfl, rfl, hR.2.2.2.2.2.1, hR.2.2.2.2.2.2.1, hR.2.2.2.2.2.2.2.1, fun _ _ => rfl⟩
