section
/-! 25.ops -/
/-! takeOut -/
/-- a made WALK that is not stale stands on a PLACE of its SHELF -/
def WI (σ : CS) (k : Nat) : Prop := (σ.2.2.2.2.1 k).1 = true → wSt σ k = false → ∃ A : Nat, wAh σ k = nI A ∧ A ≤ σ.2.1 (wO σ k) ∧ ((σ.2.2.2.2.1 k).2.2.2.2.2.2.2 = true → 1 ≤ A)
theorem liU_w {σ : CS} {k j : Nat} : (liU σ k j).2.2.2.2 = σ.2.2.2.2 := by
  unfold liU
  split <;> rfl
def toU (σ : CS) (k : Nat) (τ : CS) : CS := wU τ k ((σ.2.2.2.2.1 k).1, wO σ k, (σ.2.2.2.2.1 k).2.2.1, (σ.2.2.2.2.1 k).2.2.2.1, (σ.2.2.2.2.1 k).2.2.2.2.1 + 1, τ.2.2.1 (wO σ k), (σ.2.2.2.2.1 k).2.2.2.2.2.2.1, false)
def wCt (σ : CS) (k : Nat) : Bool := (σ.2.2.2.2.1 k).2.2.2.2.2.2.2 && decide (σ.2.2.2.1 (wO σ k) = (σ.2.2.2.2.1 k).2.2.2.2.2.2.1)
def opTakeOut (σ : CS) (a : Int32) : ARes × CS := onWk a σ (fun k => if (σ.2.2.2.2.1 k).1 = false then (xS, σ) else if wSt σ k = true ∨ ¬ (σ.2.2.2.2.1 k).2.2.1 = 1 ∨ nI (wO σ k) = 7 ∨ wCt σ k = false then (rI (-9), rfU σ) else
  (rI (nI ((liU σ (wO σ k) ((wAh σ k).toNatClampNeg - 1)).2.1 (wO σ k))), toU σ k (liU σ (wO σ k) ((wAh σ k).toNatClampNeg - 1))))
theorem m_takeOut {h : AH} {σ : CS} {d bc bs n : Nat} {a : Int32} (hR : RC h σ) (hd : 6 ≤ d) (hb1 : 20 ≤ bc) (hb2 : 200 ≤ bs) (hT : σ.2.1 6 = σ.2.1 7) (hV : ∀ k, k < 6 → WI σ k) : SM SR0 MX3_takeOut d bc bs [.ref 100, .int a] h n (CP h n (opTakeOut σ a)) := by
  refine sm_of pn_Overwalks rfl (Nat.le_of_ble_eq_true rfl) ?_
  refine sw_aload_n (pc' := 1) rfl dX3_takeOut_0 rfl ?_
  refine sw_iload_n (pc' := 2) rfl dX3_takeOut_1 rfl ?_
  rcases idxN 6 (by decide +kernel) a with q2 | ⟨k2, hk2, q2⟩
  · refine sw_V (M' := MX3_walkAt) (d' := d - 1) (bc' := 1) (bs' := 6) (ci := 4) (as := [_]) dX3_takeOut_2 w_357 ok_X3_walkAt (m_walkAt_x hR (Nat.le_refl _) (Nat.le_refl _) q2) hR.1 rfl (by omega) (Nat.le_of_ble_eq_true rfl) (by omega) (by omega) (dx_x (swx_out rfl ?_)) (fun v h' n' _ z => dx_k z)
    rw [opTakeOut, onWk_x q2]
    exact ⟨rfl, rfl, hR, FrC.rf⟩
  subst q2
  refine sw_V (M' := MX3_walkAt) (d' := d - 1) (bc' := 1) (bs' := 6) (ci := 4) (as := [_]) dX3_takeOut_2 w_357 ok_X3_walkAt (m_walkAt_k hR (Nat.le_refl _) (Nat.le_refl _) hk2) hR.1 rfl (by omega) (Nat.le_of_ble_eq_true rfl) (by omega) (by omega) (fun E h' n' _ z => det_x z) (det_k ?_)
  refine sw_astore_n (pc' := 6) (lv' := [(2, _), (0, _), (1, _)]) rfl dX3_takeOut_5 (by decide +kernel) rfl ?_
  refine sw_aload_n (pc' := 7) rfl dX3_takeOut_6 rfl ?_
  rcases Classical.em ((σ.2.2.2.2.1 k2).1 = false) with q7 | q7
  · refine sw_S (M' := MX3_requireMade) (d' := d - 1) (bc' := 1) (bs' := 6) (as := [_]) dX3_takeOut_7 w_640 ok_X3_requireMade (m_requireMade_x (hR.wk hk2).2 (Nat.le_refl _) (Nat.le_refl _) q7) (by omega) (Nat.le_of_ble_eq_true rfl) (by omega) (by omega) (dx_x (swx_out rfl ?_)) (fun v h' n' _ z => dx_k z)
    rw [opTakeOut, onWk_k hk2, if_pos q7]
    exact ⟨rfl, rfl, hR, FrC.rf⟩
  refine sw_S (M' := MX3_requireMade) (d' := d - 1) (bc' := 1) (bs' := 6) (as := [_]) dX3_takeOut_7 w_640 ok_X3_requireMade (m_requireMade_k (hR.wk hk2).2 (Nat.le_refl _) (Nat.le_refl _) q7) (by omega) (Nat.le_of_ble_eq_true rfl) (by omega) (by omega) (fun E h' n' _ z => det_x z) (det_k ?_)
  refine sw_aload_n (pc' := 11) rfl dX3_takeOut_10 rfl ?_
  refine sw_V (M' := MX2_isStale) (d' := d - 1) (bc' := 0) (bs' := 0) (ci := 3) (as := []) dX3_takeOut_11 w_284 ok_X2_isStale (m_isStale (hR.wk hk2).2 (hR.sh (hR.wk hk2).1)) (hR.wk hk2).2.1 rfl (by omega) (Nat.le_of_ble_eq_true rfl) (by omega) (by omega) (fun E h' n' _ z => det_x z) (det_k ?_)
  refine sw_if_ne (pc' := 17) (tgt := 41) rfl dX3_takeOut_14 (by decide +kernel) (fun c14 => ?_) (fun c14 => ?_)
  · refine sw_aload_n (pc' := 42) rfl dX3_takeOut_41 rfl ?_
    refine sw_V (M' := MX3_refuse) (d' := d - 1) (bc' := 0) (bs' := 0) (ci := 4) (as := []) dX3_takeOut_42 w_439 ok_X3_refuse (m_refuse hR) hR.1 rfl (by omega) (Nat.le_of_ble_eq_true rfl) (by omega) (by omega) (fun E h' n' _ z => cp_x z) (cp_k (fun p42 p42R p42F => ?_))
    refine sw_ret (v := some _) ⟨dX3_takeOut_45, _, rfl, rfl⟩ ?_
    rw [opTakeOut, onWk_k hk2, if_neg q7, if_pos (Or.inl (show wSt σ k2 = true from bI_1 c14))]
    exact ⟨rfl, rfl, p42R, p42F⟩
  · refine sw_aload_n (pc' := 18) rfl dX3_takeOut_17 rfl ?_
    refine sw_getf (ci := 3) (k := 3) (pc' := 21) rfl dX3_takeOut_18 (by decide +kernel) w_124 (hR.wk hk2).2.1 rfl ?_
    refine sw_iconst (pc' := 22) (v := 1) rfl dX3_takeOut_21 (by decide +kernel) ?_
    refine sw_icmp_ne (pc' := 25) (tgt := 41) rfl dX3_takeOut_22 (by decide +kernel) (fun c22 => ?_) (fun c22 => ?_)
    · refine sw_aload_n (pc' := 42) rfl dX3_takeOut_41 rfl ?_
      refine sw_V (M' := MX3_refuse) (d' := d - 1) (bc' := 0) (bs' := 0) (ci := 4) (as := []) dX3_takeOut_42 w_439 ok_X3_refuse (m_refuse hR) hR.1 rfl (by omega) (Nat.le_of_ble_eq_true rfl) (by omega) (by omega) (fun E h' n' _ z => cp_x z) (cp_k (fun p42 p42R p42F => ?_))
      refine sw_ret (v := some _) ⟨dX3_takeOut_45, _, rfl, rfl⟩ ?_
      rw [opTakeOut, onWk_k hk2, if_neg q7, if_pos (Or.inr (Or.inl c22))]
      exact ⟨rfl, rfl, p42R, p42F⟩
    · refine sw_aload_n (pc' := 26) rfl dX3_takeOut_25 rfl ?_
      refine sw_getf (ci := 3) (k := 2) (pc' := 29) rfl dX3_takeOut_26 (by decide +kernel) w_122 (hR.wk hk2).2.1 rfl ?_
      refine sw_bipush (pc' := 31) (v := 7) rfl dX3_takeOut_29 (by decide +kernel) ?_
      refine sw_icmp_eq (pc' := 34) (tgt := 41) rfl dX3_takeOut_31 (by decide +kernel) (fun c31 => ?_) (fun c31 => ?_)
      · refine sw_aload_n (pc' := 42) rfl dX3_takeOut_41 rfl ?_
        refine sw_V (M' := MX3_refuse) (d' := d - 1) (bc' := 0) (bs' := 0) (ci := 4) (as := []) dX3_takeOut_42 w_439 ok_X3_refuse (m_refuse hR) hR.1 rfl (by omega) (Nat.le_of_ble_eq_true rfl) (by omega) (by omega) (fun E h' n' _ z => cp_x z) (cp_k (fun p42 p42R p42F => ?_))
        refine sw_ret (v := some _) ⟨dX3_takeOut_45, _, rfl, rfl⟩ ?_
        rw [opTakeOut, onWk_k hk2, if_neg q7, if_pos (Or.inr (Or.inr (Or.inl (show nI (wO σ k2) = 7 from c31))))]
        exact ⟨rfl, rfl, p42R, p42F⟩
      · refine sw_aload_n (pc' := 35) rfl dX3_takeOut_34 rfl ?_
        refine sw_V (M' := MX2_canTakeOut) (d' := d - 1) (bc' := 0) (bs' := 0) (ci := 3) (as := []) dX3_takeOut_35 w_658 ok_X2_canTakeOut (m_canTakeOut (hR.wk hk2).2 (hR.sh (hR.wk hk2).1)) (hR.wk hk2).2.1 rfl (by omega) (Nat.le_of_ble_eq_true rfl) (by omega) (by omega) (fun E h' n' _ z => det_x z) (det_k ?_)
        refine sw_if_ne (pc' := 41) (tgt := 46) rfl dX3_takeOut_38 (by decide +kernel) (fun c38 => ?_) (fun c38 => ?_)
        · refine sw_aload_n (pc' := 47) rfl dX3_takeOut_46 rfl ?_
          refine sw_aload_n (pc' := 48) rfl dX3_takeOut_47 rfl ?_
          refine sw_getf (ci := 3) (k := 1) (pc' := 51) rfl dX3_takeOut_48 (by decide +kernel) w_120 (hR.wk hk2).2.1 rfl ?_
          refine sw_aload_n (pc' := 52) rfl dX3_takeOut_51 rfl ?_
          refine sw_V (M' := MX2_ahead) (d' := d - 1) (bc' := 0) (bs' := 0) (ci := 3) (as := []) dX3_takeOut_52 w_215 ok_X2_ahead (m_ahead (hR.wk hk2).2) (hR.wk hk2).2.1 rfl (by omega) (Nat.le_of_ble_eq_true rfl) (by omega) (by omega) (fun E h' n' _ z => det_x z) (det_k ?_)
          refine sw_iconst (pc' := 56) (v := 1) rfl dX3_takeOut_55 (by decide +kernel) ?_
          refine sw_isub (pc' := 57) rfl dX3_takeOut_56 ?_
          have c1 : (σ.2.2.2.2.1 k2).1 = true := by cases e : (σ.2.2.2.2.1 k2).1 with | false => exact absurd e q7 | true => rfl
          have c2 : wCt σ k2 = true := bI_1 c38
          have ov : wO σ k2 < 11 := (hR.wk hk2).1
          obtain ⟨A, eA, hA, hl⟩ := hV k2 hk2 c1 (bI_0 c14)
          have hA1 : 1 ≤ A := hl (Bool.and_eq_true_iff.mp c2).1
          obtain ⟨B, rfl⟩ : ∃ B, A = B + 1 := ⟨A - 1, by omega⟩
          have e1 : (σ.2.2.2.2.1 k2).2.2.2.1 - (σ.2.2.2.2.1 k2).2.2.2.2.1 - 1 = nI B := by rw [show (σ.2.2.2.2.1 k2).2.2.2.1 - (σ.2.2.2.2.1 k2).2.2.2.2.1 = nI (B + 1) from eA, nI_pred]
          rw [e1]
          have hc := (hR.sh ov).2.2.1
          refine sw_V (M' := MX3_liftFrom) (d' := d - 1) (bc' := 0) (bs' := 0) (ci := 4) (as := [_, _]) dX3_takeOut_57 w_482 ok_X3_liftFrom (m_liftFrom (k := wO σ k2) hR ov (by omega) hT (by omega)) hR.1 rfl (by omega) (Nat.le_of_ble_eq_true rfl) (by omega) (by omega) (fun E h' n' _ z => cp_x z) (cp_k (fun p57 p57R p57F => ?_))
          have W1 := p57R.wk hk2
          rw [show (liU σ (wO σ k2) B).2.2.2.2.1 k2 = σ.2.2.2.2.1 k2 from by rw [liU_w]] at W1
          have S1 := p57R.sh ov
          refine sw_aload_n (pc' := 61) rfl dX3_takeOut_60 rfl ?_
          have hne : 102 + 2 * wO σ k2 ≠ 125 + k2 ∧ 102 + 2 * wO σ k2 + 1 ≠ 125 + k2 := by omega
          refine sw_V (M' := MX2_tookOut) (d' := d - 1) (bc' := 0) (bs' := 0) (ci := 3) (as := []) dX3_takeOut_61 w_662 ok_X2_tookOut (m_tookOut W1.2 S1 hne) W1.2.1 rfl (by omega) (Nat.le_of_ble_eq_true rfl) (by omega) (by omega) (fun E h' n' _ z => wkp_x z) (wkp_k (fun p61 p61W p61F => ?_))
          refine sw_aload_n (pc' := 65) rfl dX3_takeOut_64 rfl ?_
          refine sw_getf (ci := 3) (k := 1) (pc' := 68) rfl dX3_takeOut_65 (by decide +kernel) w_120 p61W.1 rfl ?_
          refine sw_getf (ci := 2) (k := 2) (pc' := 71) rfl dX3_takeOut_68 (by decide +kernel) w_84 (S1.frW p61F hne).1 rfl ?_
          refine sw_ret (v := some _) ⟨dX3_takeOut_71, _, rfl, rfl⟩ ?_
          rw [opTakeOut, onWk_k hk2, if_neg q7, if_neg (fun q => q.elim (fun e => Bool.noConfusion (e.symm.trans (show wSt σ k2 = false from bI_0 c14))) (fun q => q.elim (fun e => e c22) (fun q => q.elim (fun e => c31 e) (fun e => Bool.noConfusion (e.symm.trans c2))))), show (wAh σ k2).toNatClampNeg - 1 = B from by rw [eA, nI_clamp (by omega)]; rfl]
          exact ⟨rfl, rfl, p57R.wU hk2 ⟨ov, p61W⟩ p61F, p57F.tr (p61F.c (by omega) (by omega)) (Nat.le_refl _)⟩
        · refine sw_aload_n (pc' := 42) rfl dX3_takeOut_41 rfl ?_
          refine sw_V (M' := MX3_refuse) (d' := d - 1) (bc' := 0) (bs' := 0) (ci := 4) (as := []) dX3_takeOut_42 w_439 ok_X3_refuse (m_refuse hR) hR.1 rfl (by omega) (Nat.le_of_ble_eq_true rfl) (by omega) (by omega) (fun E h' n' _ z => cp_x z) (cp_k (fun p42 p42R p42F => ?_))
          refine sw_ret (v := some _) ⟨dX3_takeOut_45, _, rfl, rfl⟩ ?_
          rw [opTakeOut, onWk_k hk2, if_neg q7, if_pos (Or.inr (Or.inr (Or.inr (show wCt σ k2 = false from bI_0 c38))))]
          exact ⟨rfl, rfl, p42R, p42F⟩
end
section
/-! 26.ops -/
/-! listRest, keepRest, pourRest -/
def LrP (h : AH) (w b2 : Nat) (G : Nat) (mk : Bool) (b : Nat) (sh hw gi tk ss ts : Int32) (la : Bool) (kd2 : Nat) (g2 : Nat → Int32) (e2 : Nat) (s2 t2 : Int32) (n : Nat) : ARes → AH → Nat → Prop := fun r' h' n' => r' = rI (nI G) ∧ n' = n ∧ WkF h' w mk b sh hw gi tk ss ts la ∧ ShF h' b2 kd2 g2 e2 s2 t2 ∧ ∀ i, i ≠ w → i ≠ b2 → i ≠ b2 + 1 → h' i = h i
theorem lr_k {A : Nat → AH → Option Value → Prop} {h : AH} {w b2 G b kd2 e2 n n0 : Nat} {mk la : Bool} {sh hw gi tk ss ts s2 t2 : Int32} {g2 : Nat → Int32} (k : ∀ h', WkF h' w mk b sh hw gi tk ss ts la → ShF h' b2 kd2 g2 e2 s2 t2 → (∀ i, i ≠ w → i ≠ b2 → i ≠ b2 + 1 → h' i = h i) → A n h' (some (.int (nI G)))) : ∀ (v : Option Value) (h' : AH) (n' : Nat), n0 ≤ n' → LrP h w b2 G mk b sh hw gi tk ss ts la kd2 g2 e2 s2 t2 n (.inl v) h' n' → A n' h' v := by
  rintro v h' n' - ⟨e, rfl, g1, g2, g3⟩
  cases e
  exact k h' g1 g2 g3
theorem lr_x {A : Prop} {h : AH} {w b2 G b kd2 e2 n : Nat} {mk la : Bool} {sh hw gi tk ss ts s2 t2 : Int32} {g2 : Nat → Int32} {E : String} {h' : AH} {n' : Nat} (z : LrP h w b2 G mk b sh hw gi tk ss ts la kd2 g2 e2 s2 t2 n (.inr E) h' n') : A := by cases z.1
/-- a SHELF and a WALK are otherwise -/
theorem rc_both {h h' : AH} {σ : CS} (hR : RC h σ) {k j c : Nat} {q : WT} {f : Nat → Int32} {s t : Int32} (hk : k < 6) (hj : j < 11) (hW : WkW h' (125 + k) q) (hS : ShF h' (102 + 2 * j) (kdO j) f c s t) (hF : ∀ i, i ≠ 125 + k → i ≠ 102 + 2 * j → i ≠ 102 + 2 * j + 1 → h' i = h i) : RC h' (wU (sU σ j f c s t) k q) := by
  have e1 : ∀ i, i ≠ 125 + k → up h' (125 + k) (h (125 + k)) i = h' i := fun i hi => up_n hi
  have F1 : FrS h (up h' (125 + k) (h (125 + k))) (102 + 2 * j) := by
    intro i h1 h2
    by_cases e : i = 125 + k
    · rw [e, up_s]
    · rw [e1 i e]
      exact hF i e h1 h2
  have S1 : ShF (up h' (125 + k) (h (125 + k))) (102 + 2 * j) (kdO j) f c s t := ⟨(e1 _ (by omega)).trans hS.1, (e1 _ (by omega)).trans hS.2.1, hS.2.2⟩
  exact (hR.sU hj S1 F1).wU hk hW (fun i hi => (e1 i hi).symm)
def krU (σ : CS) (k j A G : Nat) : CS := wU (kpU σ j (wO σ k) A) k ((σ.2.2.2.2.1 k).1, wO σ k, (σ.2.2.2.2.1 k).2.2.1, (σ.2.2.2.2.1 k).2.2.2.1 + nI G, (σ.2.2.2.2.1 k).2.2.2.2.1, (σ.2.2.2.2.1 k).2.2.2.2.2.1, if G = 0 then (σ.2.2.2.2.1 k).2.2.2.2.2.2.1 else σ.2.2.2.1 (wO σ k), if G = 0 then (σ.2.2.2.2.1 k).2.2.2.2.2.2.2 else true)
def wGa (σ : CS) (k : Nat) : Bool := !wSt σ k && decide ((σ.2.2.2.2.1 k).2.2.1 ≠ 1)
def opKeepRest (σ : CS) (a b : Int32) : ARes × CS := onWk a σ (fun k => onLi b σ (fun j => if (σ.2.2.2.2.1 k).1 = false then (xS, σ) else if wGa σ k = false ∨ nI (wO σ k) = nI j then (rI (-9), rfU σ) else (rI (nI (wGu σ k 12)), krU σ k j (wAh σ k).toNatClampNeg (wGu σ k 12))))
def opPourRest (σ : CS) (a b : Int32) : ARes × CS := onWk a σ (fun k => onSh b σ (fun j => if (σ.2.2.2.2.1 k).1 = false then (xS, σ) else if 12 < nI (σ.2.1 j) + nI (σ.2.1 (wO σ k)) then (xS, σ) else if wGa σ k = false ∨ cpB σ (wO σ k) j = true then (rI (-9), rfU σ) else (rI (nI (wGu σ k 12)), (pbM (wO σ k) j (wAh σ k).toNatClampNeg (σ.2.1 (wO σ k) - (wAh σ k).toNatClampNeg) false (gvU σ k (wGu σ k 12))).2)))
theorem wi_at {σ : CS} {k : Nat} (hV : WI σ k) (q : ¬ (σ.2.2.2.2.1 k).1 = false) (e : wGa σ k = true) : ∃ A : Nat, wAh σ k = nI A ∧ A ≤ σ.2.1 (wO σ k) := by
  have c1 : (σ.2.2.2.2.1 k).1 = true := by
    cases e : (σ.2.2.2.2.1 k).1 with
    | false => exact absurd e q
    | true => rfl
  have c2 : wSt σ k = false := by
    cases e9 : wSt σ k with
    | false => rfl
    | true => rw [wGa, e9] at e; cases e
  obtain ⟨A, h1, h2, -⟩ := hV c1 c2
  exact ⟨A, h1, h2⟩
theorem m_listRest {h : AH} {b kd c b2 kd2 c2 A d bc bs n w : Nat} {f g : Nat → Int32} {s t s2 t2 sh hw gi tk ss ts : Int32} {mk la : Bool} (hW : WkF h w mk b sh hw gi tk ss ts la) (hS : ShF h b kd f c s t) (gS : ShF h b2 kd2 g c2 s2 t2) (hne : (b ≠ w ∧ b + 1 ≠ w) ∧ b2 ≠ w ∧ b2 + 1 ≠ w) (hb : b2 + 2 ≤ b ∨ b + 2 ≤ b2) (eA : gi - tk = nI A) (hA : A ≤ c) (hd : 3 ≤ d) : SM SR0 MX3_listRest d bc bs [.ref w, .ref b2] h n (LrP h w b2 (guN c s tk ss gi 12) mk b sh hw (gi + nI (guN c s tk ss gi 12)) tk ss (if (guN c s tk ss gi 12) = 0 then ts else t) (if (guN c s tk ss gi 12) = 0 then la else true) kd2 (blN g f A (c - A)) (c - A) (s2 + 1) t2 n) := by
  refine sm_of pn_Overwalks rfl (Nat.le_of_ble_eq_true rfl) ?_
  refine sw_aload_n (pc' := 1) rfl dX3_listRest_0 rfl ?_
  refine sw_aload_n (pc' := 2) rfl dX3_listRest_1 rfl ?_
  refine sw_getf (ci := 3) (k := 1) (pc' := 5) rfl dX3_listRest_2 (by decide +kernel) w_120 hW.1 rfl ?_
  refine sw_aload_n (pc' := 6) rfl dX3_listRest_5 rfl ?_
  refine sw_V (M' := MX2_ahead) (d' := d - 1) (bc' := 0) (bs' := 0) (ci := 3) (as := []) dX3_listRest_6 w_215 ok_X2_ahead (m_ahead hW) hW.1 rfl (by omega) (Nat.le_of_ble_eq_true rfl) (Nat.zero_le _) (Nat.zero_le _) (fun E h' n' _ z => det_x z) (det_k ?_)
  rw [eA]
  refine sw_V (M' := MX1_becomeListOf) (d' := d - 1) (bc' := 0) (bs' := 0) (ci := 2) (as := [_, _]) dX3_listRest_9 w_216 ok_X1_becomeListOf (m_becomeListOf gS hS (by omega) (by omega) hA) gS.1 rfl (by omega) (Nat.le_of_ble_eq_true rfl) (Nat.zero_le _) (Nat.zero_le _) (fun E h' n' _ z => shp_x z) (shp_k (fun p pS pF => ?_))
  have W1 := hW.frS pF (by omega)
  have S1 := hS.fr pF hb
  refine sw_aload_n (pc' := 13) rfl dX3_listRest_12 rfl ?_
  refine sw_bipush (pc' := 15) (v := 12) rfl dX3_listRest_13 (by decide +kernel) ?_
  refine sw_V (M' := MX2_giveUpTo) (d' := d - 1) (bc' := 0) (bs' := 0) (ci := 3) (as := [_]) dX3_listRest_15 w_221 ok_X2_giveUpTo (m_giveUpTo (m := 12) W1 S1 hne.1 (by omega) (by decide +kernel)) W1.1 rfl (by omega) (Nat.le_of_ble_eq_true rfl) (Nat.zero_le _) (Nat.zero_le _) (fun E h' n' _ z => wkp_x z) (wkp_k (fun o oW oF => ?_))
  refine sw_ret (v := some _) ⟨dX3_listRest_18, _, rfl, rfl⟩ ?_
  exact ⟨rfl, rfl, oW, pS.frW oF hne.2, fun i h1 h2 h3 => (oF i h1).trans (pF i h2 h3)⟩
theorem m_keepRest {h : AH} {σ : CS} {d bc bs n : Nat} {a b : Int32} (hR : RC h σ) (hd : 6 ≤ d) (hb1 : 20 ≤ bc) (hb2 : 200 ≤ bs) (hV : ∀ k, k < 6 → WI σ k) : SM SR0 MX3_keepRest d bc bs [.ref 100, .int a, .int b] h n (CP h n (opKeepRest σ a b)) := by
  refine sm_of pn_Overwalks rfl (Nat.le_of_ble_eq_true rfl) ?_
  refine sw_aload_n (pc' := 1) rfl dX3_keepRest_0 rfl ?_
  refine sw_iload_n (pc' := 2) rfl dX3_keepRest_1 rfl ?_
  rcases idxN 6 (by decide +kernel) a with q2 | ⟨k2, hk2, q2⟩
  · refine sw_V (M' := MX3_walkAt) (d' := d - 1) (bc' := 1) (bs' := 6) (ci := 4) (as := [_]) dX3_keepRest_2 w_357 ok_X3_walkAt (m_walkAt_x hR (Nat.le_refl _) (Nat.le_refl _) q2) hR.1 rfl (by omega) (Nat.le_of_ble_eq_true rfl) (by omega) (by omega) (dx_x (swx_out rfl ?_)) (fun v h' n' _ z => dx_k z)
    rw [opKeepRest, onWk_x q2]
    exact ⟨rfl, rfl, hR, FrC.rf⟩
  subst q2
  refine sw_V (M' := MX3_walkAt) (d' := d - 1) (bc' := 1) (bs' := 6) (ci := 4) (as := [_]) dX3_keepRest_2 w_357 ok_X3_walkAt (m_walkAt_k hR (Nat.le_refl _) (Nat.le_refl _) hk2) hR.1 rfl (by omega) (Nat.le_of_ble_eq_true rfl) (by omega) (by omega) (fun E h' n' _ z => det_x z) (det_k ?_)
  refine sw_astore_n (pc' := 6) (lv' := [(3, _), (0, _), (1, _), (2, _)]) rfl dX3_keepRest_5 (by decide +kernel) rfl ?_
  refine sw_aload_n (pc' := 7) rfl dX3_keepRest_6 rfl ?_
  refine sw_iload_n (pc' := 8) rfl dX3_keepRest_7 rfl ?_
  rcases Classical.em (b < 8) with q8 | q8
  · refine sw_V (M' := MX3_listAt) (d' := d - 1) (bc' := 2) (bs' := 12) (ci := 4) (as := [_]) dX3_keepRest_8 w_959 ok_X3_listAt (m_listAt_x hR (Nat.le_refl _) (Nat.le_refl _) (by omega) q8) hR.1 rfl (by omega) (Nat.le_of_ble_eq_true rfl) (by omega) (by omega) (dx_x (swx_out rfl ?_)) (fun v h' n' _ z => dx_k z)
    rw [opKeepRest, onWk_k hk2, onLi_x q8]
    exact ⟨rfl, rfl, hR, FrC.rf⟩
  rcases idxN 11 (by decide +kernel) b with q8b | ⟨k8, hk8, q8b⟩
  · refine sw_V (M' := MX3_listAt) (d' := d - 1) (bc' := 2) (bs' := 12) (ci := 4) (as := [_]) dX3_keepRest_8 w_959 ok_X3_listAt (m_listAt_y hR (Nat.le_refl _) (Nat.le_refl _) (by omega) q8 q8b) hR.1 rfl (by omega) (Nat.le_of_ble_eq_true rfl) (by omega) (by omega) (dx_x (swx_out rfl ?_)) (fun v h' n' _ z => dx_k z)
    rw [opKeepRest, onWk_k hk2, onLi_y q8 q8b]
    exact ⟨rfl, rfl, hR, FrC.rf⟩
  subst q8b
  refine sw_V (M' := MX3_listAt) (d' := d - 1) (bc' := 2) (bs' := 12) (ci := 4) (as := [_]) dX3_keepRest_8 w_959 ok_X3_listAt (m_listAt_k hR (Nat.le_refl _) (Nat.le_refl _) (by omega) q8 hk8) hR.1 rfl (by omega) (Nat.le_of_ble_eq_true rfl) (by omega) (by omega) (fun E h' n' _ z => det_x z) (det_k ?_)
  refine sw_astore (pc' := 13) (lv' := [(4, _), (3, _), (0, _), (1, _), (2, _)]) rfl dX3_keepRest_11 (by decide +kernel) rfl ?_
  refine sw_aload_n (pc' := 14) rfl dX3_keepRest_13 rfl ?_
  rcases Classical.em ((σ.2.2.2.2.1 k2).1 = false) with q14 | q14
  · refine sw_S (M' := MX3_requireMade) (d' := d - 1) (bc' := 1) (bs' := 6) (as := [_]) dX3_keepRest_14 w_640 ok_X3_requireMade (m_requireMade_x (hR.wk hk2).2 (Nat.le_refl _) (Nat.le_refl _) q14) (by omega) (Nat.le_of_ble_eq_true rfl) (by omega) (by omega) (dx_x (swx_out rfl ?_)) (fun v h' n' _ z => dx_k z)
    rw [opKeepRest, onWk_k hk2, onLi_k q8 hk8, if_pos q14]
    exact ⟨rfl, rfl, hR, FrC.rf⟩
  refine sw_S (M' := MX3_requireMade) (d' := d - 1) (bc' := 1) (bs' := 6) (as := [_]) dX3_keepRest_14 w_640 ok_X3_requireMade (m_requireMade_k (hR.wk hk2).2 (Nat.le_refl _) (Nat.le_refl _) q14) (by omega) (Nat.le_of_ble_eq_true rfl) (by omega) (by omega) (fun E h' n' _ z => det_x z) (det_k ?_)
  refine sw_aload_n (pc' := 18) rfl dX3_keepRest_17 rfl ?_
  refine sw_V (M' := MX2_canGiveAll) (d' := d - 1) (bc' := 0) (bs' := 0) (ci := 3) (as := []) dX3_keepRest_18 w_673 ok_X2_canGiveAll (m_canGiveAll (hR.wk hk2).2 (hR.sh (hR.wk hk2).1) (by omega)) (hR.wk hk2).2.1 rfl (by omega) (Nat.le_of_ble_eq_true rfl) (by omega) (by omega) (fun E h' n' _ z => det_x z) (det_k ?_)
  refine sw_if_eq (pc' := 24) (tgt := 32) rfl dX3_keepRest_21 (by decide +kernel) (fun c21 => ?_) (fun c21 => ?_)
  · refine sw_aload_n (pc' := 33) rfl dX3_keepRest_32 rfl ?_
    refine sw_V (M' := MX3_refuse) (d' := d - 1) (bc' := 0) (bs' := 0) (ci := 4) (as := []) dX3_keepRest_33 w_439 ok_X3_refuse (m_refuse hR) hR.1 rfl (by omega) (Nat.le_of_ble_eq_true rfl) (by omega) (by omega) (fun E h' n' _ z => cp_x z) (cp_k (fun p33 p33R p33F => ?_))
    refine sw_ret (v := some _) ⟨dX3_keepRest_36, _, rfl, rfl⟩ ?_
    rw [opKeepRest, onWk_k hk2, onLi_k q8 hk8, if_neg q14, if_pos (Or.inl (show wGa σ k2 = false from bI_0 c21))]
    exact ⟨rfl, rfl, p33R, p33F⟩
  · refine sw_aload_n (pc' := 25) rfl dX3_keepRest_24 rfl ?_
    refine sw_getf (ci := 3) (k := 2) (pc' := 28) rfl dX3_keepRest_25 (by decide +kernel) w_122 (hR.wk hk2).2.1 rfl ?_
    refine sw_iload_n (pc' := 29) rfl dX3_keepRest_28 rfl ?_
    refine sw_icmp_ne (pc' := 32) (tgt := 37) rfl dX3_keepRest_29 (by decide +kernel) (fun c29 => ?_) (fun c29 => ?_)
    · refine sw_aload_n (pc' := 38) rfl dX3_keepRest_37 rfl ?_
      refine sw_aload (pc' := 40) rfl dX3_keepRest_38 rfl ?_
      have ov : wO σ k2 < 11 := (hR.wk hk2).1
      obtain ⟨A, eA, hA⟩ := wi_at (hV k2 hk2) q14 (bI_1 c21 : wGa σ k2 = true)
      have hne : (σ.2.2.2.2.1 k2).2.1 ≠ k8 := fun e => c29 (congrArg nI e)
      have ov2 : (σ.2.2.2.2.1 k2).2.1 < 11 := ov
      refine sw_S (M' := MX3_listRest) (d' := d - 1) (bc' := 0) (bs' := 0) (as := [_, _]) dX3_keepRest_40 w_212 ok_X3_listRest (m_listRest (hR.wk hk2).2 (hR.sh ov) (hR.sh hk8) (by omega) (by omega) eA hA (by omega)) (by omega) (Nat.le_of_ble_eq_true rfl) (Nat.zero_le _) (Nat.zero_le _) (fun E h' n' _ z => lr_x z) (lr_k (fun p pW pS pF => ?_))
      refine sw_ret (v := some _) ⟨dX3_keepRest_43, _, rfl, rfl⟩ ?_
      rw [opKeepRest, onWk_k hk2, onLi_k q8 hk8, if_neg q14, if_neg (fun q => q.elim (fun e => Bool.noConfusion (e.symm.trans (show wGa σ k2 = true from bI_1 c21))) (fun e => c29 e)), show (wAh σ k2).toNatClampNeg = A from by rw [eA, nI_clamp (by have := (hR.sh ov).2.2.1; omega)]]
      exact ⟨rfl, rfl, rc_both hR (q := ((σ.2.2.2.2.1 k2).1, wO σ k2, (σ.2.2.2.2.1 k2).2.2.1, (σ.2.2.2.2.1 k2).2.2.2.1 + nI (wGu σ k2 12), (σ.2.2.2.2.1 k2).2.2.2.2.1, (σ.2.2.2.2.1 k2).2.2.2.2.2.1, if wGu σ k2 12 = 0 then (σ.2.2.2.2.1 k2).2.2.2.2.2.2.1 else σ.2.2.2.1 (wO σ k2), if wGu σ k2 12 = 0 then (σ.2.2.2.2.1 k2).2.2.2.2.2.2.2 else true)) hk2 hk8 ⟨ov, pW⟩ pS pF, fun i h1 _ => pF i (by omega) (by omega) (by omega)⟩
    · refine sw_aload_n (pc' := 33) rfl dX3_keepRest_32 rfl ?_
      refine sw_V (M' := MX3_refuse) (d' := d - 1) (bc' := 0) (bs' := 0) (ci := 4) (as := []) dX3_keepRest_33 w_439 ok_X3_refuse (m_refuse hR) hR.1 rfl (by omega) (Nat.le_of_ble_eq_true rfl) (by omega) (by omega) (fun E h' n' _ z => cp_x z) (cp_k (fun p33 p33R p33F => ?_))
      refine sw_ret (v := some _) ⟨dX3_keepRest_36, _, rfl, rfl⟩ ?_
      rw [opKeepRest, onWk_k hk2, onLi_k q8 hk8, if_neg q14, if_pos (Or.inr (show nI (wO σ k2) = nI k8 from c29))]
      exact ⟨rfl, rfl, p33R, p33F⟩
theorem m_pourRest {h : AH} {σ : CS} {d bc bs n : Nat} {a b : Int32} (hR : RC h σ) (hd : 6 ≤ d) (hb1 : 20 ≤ bc) (hb2 : 200 ≤ bs) (hV : ∀ k, k < 6 → WI σ k) : SM SR0 MX3_pourRest d bc bs [.ref 100, .int a, .int b] h n (CP h n (opPourRest σ a b)) := by
  refine sm_of pn_Overwalks rfl (Nat.le_of_ble_eq_true rfl) ?_
  refine sw_aload_n (pc' := 1) rfl dX3_pourRest_0 rfl ?_
  refine sw_iload_n (pc' := 2) rfl dX3_pourRest_1 rfl ?_
  rcases idxN 6 (by decide +kernel) a with q2 | ⟨k2, hk2, q2⟩
  · refine sw_V (M' := MX3_walkAt) (d' := d - 1) (bc' := 1) (bs' := 6) (ci := 4) (as := [_]) dX3_pourRest_2 w_357 ok_X3_walkAt (m_walkAt_x hR (Nat.le_refl _) (Nat.le_refl _) q2) hR.1 rfl (by omega) (Nat.le_of_ble_eq_true rfl) (by omega) (by omega) (dx_x (swx_out rfl ?_)) (fun v h' n' _ z => dx_k z)
    rw [opPourRest, onWk_x q2]
    exact ⟨rfl, rfl, hR, FrC.rf⟩
  subst q2
  refine sw_V (M' := MX3_walkAt) (d' := d - 1) (bc' := 1) (bs' := 6) (ci := 4) (as := [_]) dX3_pourRest_2 w_357 ok_X3_walkAt (m_walkAt_k hR (Nat.le_refl _) (Nat.le_refl _) hk2) hR.1 rfl (by omega) (Nat.le_of_ble_eq_true rfl) (by omega) (by omega) (fun E h' n' _ z => det_x z) (det_k ?_)
  refine sw_astore_n (pc' := 6) (lv' := [(3, _), (0, _), (1, _), (2, _)]) rfl dX3_pourRest_5 (by decide +kernel) rfl ?_
  refine sw_aload_n (pc' := 7) rfl dX3_pourRest_6 rfl ?_
  refine sw_iload_n (pc' := 8) rfl dX3_pourRest_7 rfl ?_
  rcases idxN 11 (by decide +kernel) b with q8 | ⟨k8, hk8, q8⟩
  · refine sw_V (M' := MX3_shelfAt) (d' := d - 1) (bc' := 1) (bs' := 6) (ci := 4) (as := [_]) dX3_pourRest_8 w_402 ok_X3_shelfAt (m_shelfAt_x hR (Nat.le_refl _) (Nat.le_refl _) q8) hR.1 rfl (by omega) (Nat.le_of_ble_eq_true rfl) (by omega) (by omega) (dx_x (swx_out rfl ?_)) (fun v h' n' _ z => dx_k z)
    rw [opPourRest, onWk_k hk2, onSh_x q8]
    exact ⟨rfl, rfl, hR, FrC.rf⟩
  subst q8
  refine sw_V (M' := MX3_shelfAt) (d' := d - 1) (bc' := 1) (bs' := 6) (ci := 4) (as := [_]) dX3_pourRest_8 w_402 ok_X3_shelfAt (m_shelfAt_k hR (Nat.le_refl _) (Nat.le_refl _) hk8) hR.1 rfl (by omega) (Nat.le_of_ble_eq_true rfl) (by omega) (by omega) (fun E h' n' _ z => det_x z) (det_k ?_)
  refine sw_astore (pc' := 13) (lv' := [(4, _), (3, _), (0, _), (1, _), (2, _)]) rfl dX3_pourRest_11 (by decide +kernel) rfl ?_
  refine sw_aload_n (pc' := 14) rfl dX3_pourRest_13 rfl ?_
  rcases Classical.em ((σ.2.2.2.2.1 k2).1 = false) with q14 | q14
  · refine sw_S (M' := MX3_requireMade) (d' := d - 1) (bc' := 1) (bs' := 6) (as := [_]) dX3_pourRest_14 w_640 ok_X3_requireMade (m_requireMade_x (hR.wk hk2).2 (Nat.le_refl _) (Nat.le_refl _) q14) (by omega) (Nat.le_of_ble_eq_true rfl) (by omega) (by omega) (dx_x (swx_out rfl ?_)) (fun v h' n' _ z => dx_k z)
    rw [opPourRest, onWk_k hk2, onSh_k hk8, if_pos q14]
    exact ⟨rfl, rfl, hR, FrC.rf⟩
  refine sw_S (M' := MX3_requireMade) (d' := d - 1) (bc' := 1) (bs' := 6) (as := [_]) dX3_pourRest_14 w_640 ok_X3_requireMade (m_requireMade_k (hR.wk hk2).2 (Nat.le_refl _) (Nat.le_refl _) q14) (by omega) (Nat.le_of_ble_eq_true rfl) (by omega) (by omega) (fun E h' n' _ z => det_x z) (det_k ?_)
  refine sw_aload (pc' := 19) rfl dX3_pourRest_17 rfl ?_
  refine sw_aload_n (pc' := 20) rfl dX3_pourRest_19 rfl ?_
  refine sw_getf (ci := 3) (k := 1) (pc' := 23) rfl dX3_pourRest_20 (by decide +kernel) w_120 (hR.wk hk2).2.1 rfl ?_
  refine sw_getf (ci := 2) (k := 2) (pc' := 26) rfl dX3_pourRest_23 (by decide +kernel) w_84 (hR.sh (hR.wk hk2).1).1 rfl ?_
  rcases Classical.em (12 < nI (σ.2.1 k8) + nI (σ.2.1 (wO σ k2))) with q26 | q26
  · refine sw_S (M' := MX3_requireRoom) (d' := d - 1) (bc' := 1) (bs' := 6) (as := [_, _]) dX3_pourRest_26 w_411 ok_X3_requireRoom (m_requireRoom_x (hR.sh hk8) (Nat.le_refl _) (Nat.le_refl _) q26) (by omega) (Nat.le_of_ble_eq_true rfl) (by omega) (by omega) (dx_x (swx_out rfl ?_)) (fun v h' n' _ z => dx_k z)
    rw [opPourRest, onWk_k hk2, onSh_k hk8, if_neg q14, if_pos q26]
    exact ⟨rfl, rfl, hR, FrC.rf⟩
  refine sw_S (M' := MX3_requireRoom) (d' := d - 1) (bc' := 1) (bs' := 6) (as := [_, _]) dX3_pourRest_26 w_411 ok_X3_requireRoom (m_requireRoom_k (hR.sh hk8) (Nat.le_refl _) (Nat.le_refl _) q26) (by omega) (Nat.le_of_ble_eq_true rfl) (by omega) (by omega) (fun E h' n' _ z => det_x z) (det_k ?_)
  refine sw_aload_n (pc' := 30) rfl dX3_pourRest_29 rfl ?_
  refine sw_V (M' := MX2_canGiveAll) (d' := d - 1) (bc' := 0) (bs' := 0) (ci := 3) (as := []) dX3_pourRest_30 w_673 ok_X2_canGiveAll (m_canGiveAll (hR.wk hk2).2 (hR.sh (hR.wk hk2).1) (by omega)) (hR.wk hk2).2.1 rfl (by omega) (Nat.le_of_ble_eq_true rfl) (by omega) (by omega) (fun E h' n' _ z => det_x z) (det_k ?_)
  refine sw_if_eq (pc' := 36) (tgt := 48) rfl dX3_pourRest_33 (by decide +kernel) (fun c33 => ?_) (fun c33 => ?_)
  · refine sw_aload_n (pc' := 49) rfl dX3_pourRest_48 rfl ?_
    refine sw_V (M' := MX3_refuse) (d' := d - 1) (bc' := 0) (bs' := 0) (ci := 4) (as := []) dX3_pourRest_49 w_439 ok_X3_refuse (m_refuse hR) hR.1 rfl (by omega) (Nat.le_of_ble_eq_true rfl) (by omega) (by omega) (fun E h' n' _ z => cp_x z) (cp_k (fun p49 p49R p49F => ?_))
    refine sw_ret (v := some _) ⟨dX3_pourRest_52, _, rfl, rfl⟩ ?_
    rw [opPourRest, onWk_k hk2, onSh_k hk8, if_neg q14, if_neg (show ¬ 12 < nI (σ.2.1 k8) + nI (σ.2.1 (wO σ k2)) from q26), if_pos (Or.inl (show wGa σ k2 = false from bI_0 c33))]
    exact ⟨rfl, rfl, p49R, p49F⟩
  · refine sw_aload_n (pc' := 37) rfl dX3_pourRest_36 rfl ?_
    refine sw_getf (ci := 3) (k := 1) (pc' := 40) rfl dX3_pourRest_37 (by decide +kernel) w_120 (hR.wk hk2).2.1 rfl ?_
    refine sw_aload (pc' := 42) rfl dX3_pourRest_40 rfl ?_
    have ov : wO σ k2 < 11 := (hR.wk hk2).1
    refine sw_S (M' := MX3_cannotPour) (d' := d - 1) (bc' := 0) (bs' := 0) (as := [_, _]) dX3_pourRest_42 w_524 ok_X3_cannotPour (m_cannotPour (hR.sh ov) (hR.sh hk8) (hR.kd kdO_r) (by omega)) (by omega) (Nat.le_of_ble_eq_true rfl) (Nat.zero_le _) (Nat.zero_le _) (fun E h' n' _ z => det_x z) (det_k ?_)
    refine sw_if_eq (pc' := 48) (tgt := 53) rfl dX3_pourRest_45 (by decide +kernel) (fun c45 => ?_) (fun c45 => ?_)
    · obtain ⟨A, eA, hA⟩ := wi_at (hV k2 hk2) q14 (bI_1 c33 : wGa σ k2 = true)
      have hrm := nI_room (hR.sh hk8).2.2.1 (hR.sh ov).2.2.1 q26
      refine sw_aload_n (pc' := 54) rfl dX3_pourRest_53 rfl ?_
      refine sw_V (M' := MX2_ahead) (d' := d - 1) (bc' := 0) (bs' := 0) (ci := 3) (as := []) dX3_pourRest_54 w_215 ok_X2_ahead (m_ahead (hR.wk hk2).2) (hR.wk hk2).2.1 rfl (by omega) (Nat.le_of_ble_eq_true rfl) (by omega) (by omega) (fun E h' n' _ z => det_x z) (det_k ?_)
      refine sw_istore (pc' := 59) (lv' := [(5, _), (4, _), (3, _), (0, _), (1, _), (2, _)]) rfl dX3_pourRest_57 (by decide +kernel) rfl ?_
      rw [show (σ.2.2.2.2.1 k2).2.2.2.1 - (σ.2.2.2.2.1 k2).2.2.2.2.1 = nI A from eA]
      refine sw_aload_n (pc' := 60) rfl dX3_pourRest_59 rfl ?_
      refine sw_bipush (pc' := 62) (v := 12) rfl dX3_pourRest_60 (by decide +kernel) ?_
      have ov2 : (σ.2.2.2.2.1 k2).2.1 < 11 := ov
      refine sw_V (M' := MX2_giveUpTo) (d' := d - 1) (bc' := 0) (bs' := 0) (ci := 3) (as := [_]) dX3_pourRest_62 w_221 ok_X2_giveUpTo (m_giveUpTo (m := 12) (hR.wk hk2).2 (hR.sh ov) (by omega) (by omega) (by decide +kernel)) (hR.wk hk2).2.1 rfl (by omega) (Nat.le_of_ble_eq_true rfl) (Nat.zero_le _) (Nat.zero_le _) (fun E h' n' _ z => wkp_x z) (wkp_k (fun p62 p62W p62F => ?_))
      have p62R : RC p62 (gvU σ k2 (wGu σ k2 12)) := hR.wU hk2 ⟨ov, p62W⟩ p62F
      refine sw_istore (pc' := 67) (lv' := [(6, _), (5, _), (4, _), (3, _), (0, _), (1, _), (2, _)]) rfl dX3_pourRest_65 (by decide +kernel) rfl ?_
      refine sw_aload_n (pc' := 68) rfl dX3_pourRest_67 rfl ?_
      refine sw_getf (ci := 3) (k := 1) (pc' := 71) rfl dX3_pourRest_68 (by decide +kernel) w_120 p62W.1 rfl ?_
      refine sw_iload (pc' := 73) rfl dX3_pourRest_71 rfl ?_
      refine sw_aload (pc' := 75) rfl dX3_pourRest_73 rfl ?_
      refine sw_S (M' := MX3_pourBehind) (d' := d - 1) (bc' := 0) (bs' := 0) (as := [_, _, _]) dX3_pourRest_75 w_531 ok_X3_pourBehind (m_pourBehind (i := A) p62R ov hk8 hA (by show σ.2.1 k8 + (σ.2.1 (wO σ k2) - A) ≤ 12; omega) (by omega)) (by omega) (Nat.le_of_ble_eq_true rfl) (Nat.zero_le _) (Nat.zero_le _) (fun E h' n' _ z => cp_x z) (cp_k (fun p pR pF => ?_))
      refine sw_pop (pc' := 79) rfl dX3_pourRest_78 rfl ?_
      refine sw_iload (pc' := 81) rfl dX3_pourRest_79 rfl ?_
      refine sw_ret (v := some _) ⟨dX3_pourRest_81, _, rfl, rfl⟩ ?_
      rw [opPourRest, onWk_k hk2, onSh_k hk8, if_neg q14, if_neg (show ¬ 12 < nI (σ.2.1 k8) + nI (σ.2.1 (wO σ k2)) from q26), if_neg (fun q => q.elim (fun e => Bool.noConfusion (e.symm.trans (show wGa σ k2 = true from bI_1 c33))) (fun e => Bool.noConfusion (e.symm.trans (show cpB σ (wO σ k2) k8 = false from bI_0 c45)))), show (wAh σ k2).toNatClampNeg = A from by rw [eA, nI_clamp (by have := (hR.sh ov).2.2.1; omega)]]
      exact ⟨rfl, rfl, pR, (p62F.c (by omega) (by omega)).tr pF (Nat.le_refl _)⟩
    · refine sw_aload_n (pc' := 49) rfl dX3_pourRest_48 rfl ?_
      refine sw_V (M' := MX3_refuse) (d' := d - 1) (bc' := 0) (bs' := 0) (ci := 4) (as := []) dX3_pourRest_49 w_439 ok_X3_refuse (m_refuse hR) hR.1 rfl (by omega) (Nat.le_of_ble_eq_true rfl) (by omega) (by omega) (fun E h' n' _ z => cp_x z) (cp_k (fun p49 p49R p49F => ?_))
      refine sw_ret (v := some _) ⟨dX3_pourRest_52, _, rfl, rfl⟩ ?_
      rw [opPourRest, onWk_k hk2, onSh_k hk8, if_neg q14, if_neg (show ¬ 12 < nI (σ.2.1 k8) + nI (σ.2.1 (wO σ k2)) from q26), if_pos (Or.inr (show cpB σ (wO σ k2) k8 = true from bI_1 c45))]
      exact ⟨rfl, rfl, p49R, p49F⟩
end
section
/-! 27.ops -/
/-! putAll -/
def o4 (x a b c e : Int32) : Int32 := if x = 0 then a else if x = 1 then b else if x = 2 then c else e
/-- the first of four that is -1, from j on -/
def cfN (a b c e : Int32) : Nat → Nat → Nat
  | j, 0 => j
  | j, m + 1 => if o4 (nI j) a b c e = -1 then j else cfN a b c e (j + 1) m
theorem cfN_le {a b c e : Int32} {m : Nat} : ∀ {j : Nat}, j ≤ cfN a b c e j m ∧ cfN a b c e j m ≤ j + m := by
  induction m with
  | zero => intro j; exact ⟨Nat.le_refl _, Nat.le_refl _⟩
  | succ m ih =>
    intro j
    unfold cfN
    split
    · omega
    · have := @ih (j + 1)
      omega
def taB (k : Nat) (a b c e : Int32) : Nat → Nat → Bool
  | _, 0 => true
  | j, m + 1 => tkB k (o4 (nI j) a b c e) && taB k a b c e (j + 1) m
/-- m of the four from the j-th on are PUT on SHELF k -/
def paM (k : Nat) (a b c e : Int32) : Nat → Nat → Bool → CS → Bool × CS
  | _, 0, w, σ => (w, σ)
  | j, m + 1, w, σ => paM k a b c e (j + 1) m (w || ldY (σ.1 k) (σ.2.1 k) (kdO k) (o4 (nI j) a b c e)) (ldU σ k (o4 (nI j) a b c e))
def opPutAll (σ : CS) (s a b c e : Int32) : ARes × CS := onSh s σ (fun k => if a < -1 ∨ 100 < a then (xA, σ) else if b < -1 ∨ 100 < b then (xA, σ) else if c < -1 ∨ 100 < c then (xA, σ) else if e < -1 ∨ 100 < e then (xA, σ) else if 12 < nI (σ.2.1 k) + nI (cfN a b c e 0 4) then (xS, σ) else if kdO k = 5 then (rI (-9), rfU σ) else if taB k a b c e 0 (cfN a b c e 0 4) = false then (rI (-9), rfU σ) else (rI (bI (paM k a b c e 0 (cfN a b c e 0 4) false σ).1), (paM k a b c e 0 (cfN a b c e 0 4) false σ).2))
theorem m_oneOfFour {h : AH} {d bc bs n : Nat} {x a b c e : Int32} : SM SR0 MX3_oneOfFour d bc bs [.int x, .int a, .int b, .int c, .int e] h n (Det (rI (o4 x a b c e)) h n) := by
  refine sm_of pn_Overwalks rfl (Nat.le_of_ble_eq_true rfl) ?_
  refine sw_iload_n (pc' := 1) rfl dX3_oneOfFour_0 rfl ?_
  rcases Classical.em (x = 0) with t1_0 | t1_0
  · refine sw_tableIn (tgt := 28) dX3_oneOfFour_1 (by rw [t1_0]; decide) (by rw [t1_0]; decide) (by rw [t1_0]; rfl) (by decide +kernel) ?_
    refine sw_iload_n (pc' := 29) rfl dX3_oneOfFour_28 rfl ?_
    refine sw_ret (v := some _) ⟨dX3_oneOfFour_29, _, rfl, rfl⟩ ?_
    exact ⟨by rw [o4, if_pos t1_0]; rfl, rfl, rfl⟩
  rcases Classical.em (x = 1) with t1_1 | t1_1
  · refine sw_tableIn (tgt := 30) dX3_oneOfFour_1 (by rw [t1_1]; decide) (by rw [t1_1]; decide) (by rw [t1_1]; rfl) (by decide +kernel) ?_
    refine sw_iload_n (pc' := 31) rfl dX3_oneOfFour_30 rfl ?_
    refine sw_ret (v := some _) ⟨dX3_oneOfFour_31, _, rfl, rfl⟩ ?_
    exact ⟨by rw [o4, if_neg t1_0, if_pos t1_1]; rfl, rfl, rfl⟩
  rcases Classical.em (x = 2) with t1_2 | t1_2
  · refine sw_tableIn (tgt := 32) dX3_oneOfFour_1 (by rw [t1_2]; decide) (by rw [t1_2]; decide) (by rw [t1_2]; rfl) (by decide +kernel) ?_
    refine sw_iload_n (pc' := 33) rfl dX3_oneOfFour_32 rfl ?_
    refine sw_ret (v := some _) ⟨dX3_oneOfFour_33, _, rfl, rfl⟩ ?_
    exact ⟨by rw [o4, if_neg t1_0, if_neg t1_1, if_pos t1_2]; rfl, rfl, rfl⟩
  refine sw_tableOut (tgt := 34) dX3_oneOfFour_1 (ts3 t1_0 t1_1 t1_2) (by decide +kernel) ?_
  refine sw_iload (pc' := 36) rfl dX3_oneOfFour_34 rfl ?_
  refine sw_ret (v := some _) ⟨dX3_oneOfFour_36, _, rfl, rfl⟩ ?_
  exact ⟨by rw [o4, if_neg t1_0, if_neg t1_1, if_neg t1_2]; rfl, rfl, rfl⟩
theorem l_countToFirstNone {h : AH} {d bc bs n : Nat} {a b c e : Int32} (hd : 1 ≤ d) (m : Nat) : ∀ j, j + m = 4 → SW SR0 MX3_countToFirstNone d bc bs 3 [(4, .int (nI j)), (0, .int a), (1, .int b), (2, .int c), (3, .int e)] [] h n (Det (rI (nI (cfN a b c e j m))) h n) := by
  induction m with
  | zero =>
    intro j hj
    have hj4 : j = 4 := by omega
    subst hj4
    refine sw_iload (pc' := 5) rfl dX3_countToFirstNone_3 rfl ?_
    refine sw_iconst (pc' := 6) (v := 4) rfl dX3_countToFirstNone_5 (by decide +kernel) ?_
    refine sw_icmp_ge (pc' := 9) (tgt := 31) rfl dX3_countToFirstNone_6 (by decide +kernel) (fun c6 => ?_) (fun c6 => ?_)
    · refine sw_iconst (pc' := 32) (v := 4) rfl dX3_countToFirstNone_31 (by decide +kernel) ?_
      refine sw_ret (v := some _) ⟨dX3_countToFirstNone_32, _, rfl, rfl⟩ ?_
      exact ⟨rfl, rfl, rfl⟩
    · exact absurd (Int32.le_refl (nI 4)) c6
  | succ m ih =>
    intro j hj
    refine sw_iload (pc' := 5) rfl dX3_countToFirstNone_3 rfl ?_
    refine sw_iconst (pc' := 6) (v := 4) rfl dX3_countToFirstNone_5 (by decide +kernel) ?_
    refine sw_icmp_ge (pc' := 9) (tgt := 31) rfl dX3_countToFirstNone_6 (by decide +kernel) (fun c6 => ?_) (fun c6 => ?_)
    · exact absurd c6 (nI_ge (b := 4) (by omega) (by decide +kernel))
    · refine sw_iload (pc' := 11) rfl dX3_countToFirstNone_9 rfl ?_
      refine sw_iload_n (pc' := 12) rfl dX3_countToFirstNone_11 rfl ?_
      refine sw_iload_n (pc' := 13) rfl dX3_countToFirstNone_12 rfl ?_
      refine sw_iload_n (pc' := 14) rfl dX3_countToFirstNone_13 rfl ?_
      refine sw_iload_n (pc' := 15) rfl dX3_countToFirstNone_14 rfl ?_
      refine sw_S (M' := MX3_oneOfFour) (d' := d - 1) (bc' := 0) (bs' := 0) (as := [_, _, _, _, _]) dX3_countToFirstNone_15 w_471 ok_X3_oneOfFour (m_oneOfFour) (by omega) (Nat.le_of_ble_eq_true rfl) (Nat.zero_le _) (Nat.zero_le _) (fun E h' n' _ z => det_x z) (det_k ?_)
      refine sw_iconst (pc' := 19) (v := (-1)) rfl dX3_countToFirstNone_18 (by decide +kernel) ?_
      refine sw_icmp_ne (pc' := 22) (tgt := 25) rfl dX3_countToFirstNone_19 (by decide +kernel) (fun c19 => ?_) (fun c19 => ?_)
      · refine sw_iinc (pc' := 28) (lv' := [(4, _), (0, _), (1, _), (2, _), (3, _)]) (v := nI (j + 1)) rfl dX3_countToFirstNone_25 rfl (nI_succ j).symm (by decide +kernel) rfl ?_
        refine sw_goto (tgt := 3) dX3_countToFirstNone_28 (by decide +kernel) ?_
        rw [cfN, if_neg c19]
        exact ih (j + 1) (by omega)
      · refine sw_iload (pc' := 24) rfl dX3_countToFirstNone_22 rfl ?_
        refine sw_ret (v := some _) ⟨dX3_countToFirstNone_24, _, rfl, rfl⟩ ?_
        exact ⟨by rw [cfN, if_pos c19]; rfl, rfl, rfl⟩
theorem m_countToFirstNone {h : AH} {d bc bs n : Nat} {a b c e : Int32} (hd : 1 ≤ d) : SM SR0 MX3_countToFirstNone d bc bs [.int a, .int b, .int c, .int e] h n (Det (rI (nI (cfN a b c e 0 4))) h n) := by
  refine sm_of pn_Overwalks rfl (Nat.le_of_ble_eq_true rfl) ?_
  refine sw_iconst (pc' := 1) (v := 0) rfl dX3_countToFirstNone_0 (by decide +kernel) ?_
  refine sw_istore (pc' := 3) (lv' := [(4, _), (0, _), (1, _), (2, _), (3, _)]) rfl dX3_countToFirstNone_1 (by decide +kernel) rfl ?_
  exact l_countToFirstNone hd 4 0 rfl
theorem l_putAll1 {h : AH} {σ : CS} {N : Nat} {Post : ARes → AH → Nat → Prop} {d bc bs n k : Nat} {s a b c e : Int32} (hR : RC h σ) (hk : k < 11) (hd : 3 ≤ d) (hN : N ≤ 4) (m : Nat) : ∀ (j : Nat), j + m = N → (taB k a b c e j m = true → SW SR0 MX3_putAll d bc bs 96 [(8, .int (nI N)), (7, .int (nI N)), (6, .ref (102 + 2 * k)), (0, .ref 100), (1, .int s), (2, .int a), (3, .int b), (4, .int c), (5, .int e)] [] h n Post) → (taB k a b c e j m = false → ∀ p, RC p (rfU σ) → FrC h p n → Post (rI (-9)) p n) → SW SR0 MX3_putAll d bc bs 59 [(8, .int (nI j)), (7, .int (nI N)), (6, .ref (102 + 2 * k)), (0, .ref 100), (1, .int s), (2, .int a), (3, .int b), (4, .int c), (5, .int e)] [] h n Post := by
  induction m with
  | zero =>
    intro j hj k1 k2
    have hjN : j = N := by omega
    subst hjN
    refine sw_iload (pc' := 61) rfl dX3_putAll_59 rfl ?_
    refine sw_iload (pc' := 63) rfl dX3_putAll_61 rfl ?_
    refine sw_icmp_ge (pc' := 66) (tgt := 96) rfl dX3_putAll_63 (by decide +kernel) (fun c63 => ?_) (fun c63 => ?_)
    · exact k1 rfl
    · exact absurd (Int32.le_refl _) c63
  | succ m ih =>
    intro j hj k1 k2
    rw [taB] at k1 k2
    refine sw_iload (pc' := 61) rfl dX3_putAll_59 rfl ?_
    refine sw_iload (pc' := 63) rfl dX3_putAll_61 rfl ?_
    refine sw_icmp_ge (pc' := 66) (tgt := 96) rfl dX3_putAll_63 (by decide +kernel) (fun c63 => ?_) (fun c63 => ?_)
    · exact absurd c63 (nI_ge (by omega) (by omega))
    · refine sw_aload (pc' := 68) rfl dX3_putAll_66 rfl ?_
      refine sw_iload (pc' := 70) rfl dX3_putAll_68 rfl ?_
      refine sw_iload_n (pc' := 71) rfl dX3_putAll_70 rfl ?_
      refine sw_iload_n (pc' := 72) rfl dX3_putAll_71 rfl ?_
      refine sw_iload (pc' := 74) rfl dX3_putAll_72 rfl ?_
      refine sw_iload (pc' := 76) rfl dX3_putAll_74 rfl ?_
      refine sw_S (M' := MX3_oneOfFour) (d' := d - 1) (bc' := 0) (bs' := 0) (as := [_, _, _, _, _]) dX3_putAll_76 w_471 ok_X3_oneOfFour (m_oneOfFour) (by omega) (Nat.le_of_ble_eq_true rfl) (Nat.zero_le _) (Nat.zero_le _) (fun E h' n' _ z => det_x z) (det_k ?_)
      refine sw_V (M' := MX1_takesIn) (d' := d - 1) (bc' := 0) (bs' := 0) (ci := 2) (as := [_]) dX3_putAll_79 w_435 ok_X1_takesIn (m_takesIn (hR.sh hk) (hR.kd kdO_r)) (hR.sh hk).1 rfl (by omega) (Nat.le_of_ble_eq_true rfl) (Nat.zero_le _) (Nat.zero_le _) (fun E h' n' _ z => det_x z) (det_k ?_)
      refine sw_if_ne (pc' := 85) (tgt := 90) rfl dX3_putAll_82 (by decide +kernel) (fun c82 => ?_) (fun c82 => ?_)
      · refine sw_iinc (pc' := 93) (lv' := [(8, _), (7, _), (6, _), (0, _), (1, _), (2, _), (3, _), (4, _), (5, _)]) (v := nI (j + 1)) rfl dX3_putAll_90 rfl (nI_succ j).symm (by decide +kernel) rfl ?_
        refine sw_goto (tgt := 59) dX3_putAll_93 (by decide +kernel) ?_
        have e1 : tkB k (o4 (nI j) a b c e) = true := bI_1 c82
        rw [e1, Bool.true_and] at k1 k2
        exact ih (j + 1) (by omega) k1 k2
      · refine sw_aload_n (pc' := 86) rfl dX3_putAll_85 rfl ?_
        refine sw_V (M' := MX3_refuse) (d' := d - 1) (bc' := 0) (bs' := 0) (ci := 4) (as := []) dX3_putAll_86 w_439 ok_X3_refuse (m_refuse hR) hR.1 rfl (by omega) (Nat.le_of_ble_eq_true rfl) (Nat.zero_le _) (Nat.zero_le _) (fun E h' n' _ z => cp_x z) (cp_k (fun p pR pF => ?_))
        refine sw_ret (v := some _) ⟨dX3_putAll_89, _, rfl, rfl⟩ ?_
        exact k2 (by rw [show tkB k (o4 (nI j) a b c e) = false from bI_0 c82]; rfl) p pR pF
theorem l_putAll2 {h0 : AH} {d bc bs n k : Nat} {s a b c e : Int32} (hk : k < 11) (hd : 3 ≤ d) (m : Nat) : ∀ (j : Nat) (h : AH) (w : Bool) (σ : CS), j + m ≤ 4 → σ.2.1 k + m ≤ 12 → RC h σ → FrC h0 h n → SW SR0 MX3_putAll d bc bs 102 [(9, .int (nI j)), (8, .int (bI w)), (7, .int (nI (j + m))), (6, .ref (102 + 2 * k)), (0, .ref 100), (1, .int s), (2, .int a), (3, .int b), (4, .int c), (5, .int e)] [] h n (CP h0 n (rI (bI (paM k a b c e j m w σ).1), (paM k a b c e j m w σ).2)) := by
  induction m with
  | zero =>
    intro j h w σ hj hm hR hF
    refine sw_iload (pc' := 104) rfl dX3_putAll_102 rfl ?_
    refine sw_iload (pc' := 106) rfl dX3_putAll_104 rfl ?_
    refine sw_icmp_ge (pc' := 109) (tgt := 137) rfl dX3_putAll_106 (by decide +kernel) (fun c106 => ?_) (fun c106 => ?_)
    · refine sw_iload (pc' := 139) rfl dX3_putAll_137 rfl ?_
      refine sw_S (M' := MX3_oneIf) (d' := d - 1) (bc' := 0) (bs' := 0) (as := [_]) dX3_putAll_139 w_277 ok_X3_oneIf (m_oneIf) (by omega) (Nat.le_of_ble_eq_true rfl) (Nat.zero_le _) (Nat.zero_le _) (fun E h' n' _ z => det_x z) (det_k ?_)
      refine sw_ret (v := some _) ⟨dX3_putAll_142, _, rfl, rfl⟩ ?_
      exact ⟨rfl, rfl, hR, hF⟩
    · exact absurd (Int32.le_refl _) c106
  | succ m ih =>
    intro j h w σ hj hm hR hF
    refine sw_iload (pc' := 104) rfl dX3_putAll_102 rfl ?_
    refine sw_iload (pc' := 106) rfl dX3_putAll_104 rfl ?_
    refine sw_icmp_ge (pc' := 109) (tgt := 137) rfl dX3_putAll_106 (by decide +kernel) (fun c106 => ?_) (fun c106 => ?_)
    · exact absurd c106 (nI_ge (by omega) (by omega))
    · refine sw_aload (pc' := 111) rfl dX3_putAll_109 rfl ?_
      refine sw_iload (pc' := 113) rfl dX3_putAll_111 rfl ?_
      refine sw_iload_n (pc' := 114) rfl dX3_putAll_113 rfl ?_
      refine sw_iload_n (pc' := 115) rfl dX3_putAll_114 rfl ?_
      refine sw_iload (pc' := 117) rfl dX3_putAll_115 rfl ?_
      refine sw_iload (pc' := 119) rfl dX3_putAll_117 rfl ?_
      refine sw_S (M' := MX3_oneOfFour) (d' := d - 1) (bc' := 0) (bs' := 0) (as := [_, _, _, _, _]) dX3_putAll_119 w_471 ok_X3_oneOfFour (m_oneOfFour) (by omega) (Nat.le_of_ble_eq_true rfl) (Nat.zero_le _) (Nat.zero_le _) (fun E h' n' _ z => det_x z) (det_k ?_)
      refine sw_V (M' := MX1_layDown) (d' := d - 1) (bc' := 0) (bs' := 0) (ci := 2) (as := [_]) dX3_putAll_122 w_443 ok_X1_layDown (m_layDown (hR.sh hk) (hR.kd kdO_r) (by omega) (by omega)) (hR.sh hk).1 rfl (by omega) (Nat.le_of_ble_eq_true rfl) (Nat.zero_le _) (Nat.zero_le _) (fun E h' n' _ z => shp_x z) (shp_k (fun p pS pF => ?_))
      refine sw_if_eq (pc' := 128) (tgt := 131) rfl dX3_putAll_125 (by decide +kernel) (fun c125 => ?_) (fun c125 => ?_)
      · refine sw_iinc (pc' := 134) (lv' := [(9, _), (8, _), (7, _), (6, _), (0, _), (1, _), (2, _), (3, _), (4, _), (5, _)]) (v := nI (j + 1)) rfl dX3_putAll_131 rfl (nI_succ j).symm (by decide +kernel) rfl ?_
        refine sw_goto (tgt := 102) dX3_putAll_134 (by decide +kernel) ?_
        have hu := ldU_c (σ := σ) (k := k) (x := (o4 (nI j) a b c e))
        have g := ih (j + 1) p (w || ldY (σ.1 k) (σ.2.1 k) (kdO k) (o4 (nI j) a b c e)) (ldU σ k (o4 (nI j) a b c e)) (by omega) (by omega) (hR.ldS hk pS pF) (hF.tr (pF.c hk) (Nat.le_refl _))
        rw [show j + 1 + m = j + (m + 1) by omega] at g
        rw [paM]
        rw [bI_0 c125, Bool.or_false] at g
        rw [bI_0 c125, Bool.or_false]
        exact g
      · refine sw_iconst (pc' := 129) (v := 1) rfl dX3_putAll_128 (by decide +kernel) ?_
        refine sw_istore (pc' := 131) (lv' := [(8, _), (9, _), (7, _), (6, _), (0, _), (1, _), (2, _), (3, _), (4, _), (5, _)]) rfl dX3_putAll_129 (by decide +kernel) rfl ?_
        refine sw_iinc (pc' := 134) (lv' := [(9, _), (8, _), (7, _), (6, _), (0, _), (1, _), (2, _), (3, _), (4, _), (5, _)]) (v := nI (j + 1)) rfl dX3_putAll_131 rfl (nI_succ j).symm (by decide +kernel) rfl ?_
        refine sw_goto (tgt := 102) dX3_putAll_134 (by decide +kernel) ?_
        have hu := ldU_c (σ := σ) (k := k) (x := (o4 (nI j) a b c e))
        have g := ih (j + 1) p (w || ldY (σ.1 k) (σ.2.1 k) (kdO k) (o4 (nI j) a b c e)) (ldU σ k (o4 (nI j) a b c e)) (by omega) (by omega) (hR.ldS hk pS pF) (hF.tr (pF.c hk) (Nat.le_refl _))
        rw [show j + 1 + m = j + (m + 1) by omega] at g
        rw [paM]
        rw [bI_1 c125, Bool.or_true] at g
        rw [bI_1 c125, Bool.or_true]
        exact g
theorem m_putAll {h : AH} {σ : CS} {d bc bs n : Nat} {s a b c e : Int32} (hR : RC h σ) (hd : 6 ≤ d) (hb1 : 20 ≤ bc) (hb2 : 200 ≤ bs) : SM SR0 MX3_putAll d bc bs [.ref 100, .int s, .int a, .int b, .int c, .int e] h n (CP h n (opPutAll σ s a b c e)) := by
  refine sm_of pn_Overwalks rfl (Nat.le_of_ble_eq_true rfl) ?_
  refine sw_aload_n (pc' := 1) rfl dX3_putAll_0 rfl ?_
  refine sw_iload_n (pc' := 2) rfl dX3_putAll_1 rfl ?_
  rcases idxN 11 (by decide +kernel) s with q2 | ⟨k2, hk2, q2⟩
  · refine sw_V (M' := MX3_shelfAt) (d' := d - 1) (bc' := 1) (bs' := 6) (ci := 4) (as := [_]) dX3_putAll_2 w_402 ok_X3_shelfAt (m_shelfAt_x hR (Nat.le_refl _) (Nat.le_refl _) q2) hR.1 rfl (by omega) (Nat.le_of_ble_eq_true rfl) (by omega) (by omega) (dx_x (swx_out rfl ?_)) (fun v h' n' _ z => dx_k z)
    rw [opPutAll, onSh_x q2]
    exact ⟨rfl, rfl, hR, FrC.rf⟩
  subst q2
  refine sw_V (M' := MX3_shelfAt) (d' := d - 1) (bc' := 1) (bs' := 6) (ci := 4) (as := [_]) dX3_putAll_2 w_402 ok_X3_shelfAt (m_shelfAt_k hR (Nat.le_refl _) (Nat.le_refl _) hk2) hR.1 rfl (by omega) (Nat.le_of_ble_eq_true rfl) (by omega) (by omega) (fun E h' n' _ z => det_x z) (det_k ?_)
  refine sw_astore (pc' := 7) (lv' := [(6, _), (0, _), (1, _), (2, _), (3, _), (4, _), (5, _)]) rfl dX3_putAll_5 (by decide +kernel) rfl ?_
  refine sw_iload_n (pc' := 8) rfl dX3_putAll_7 rfl ?_
  rcases Classical.em (a < -1 ∨ 100 < a) with q8 | q8
  · refine sw_S (M' := MX3_requireThingNothingOrNone) (d' := d - 1) (bc' := 1) (bs' := 6) (as := [_]) dX3_putAll_8 w_464 ok_X3_requireThingNothingOrNone (m_requireThingNothingOrNone_x (Nat.le_refl _) (Nat.le_refl _) q8) (by omega) (Nat.le_of_ble_eq_true rfl) (by omega) (by omega) (dx_x (swx_out rfl ?_)) (fun v h' n' _ z => dx_k z)
    rw [opPutAll, onSh_k hk2, if_pos q8]
    exact ⟨rfl, rfl, hR, FrC.rf⟩
  refine sw_S (M' := MX3_requireThingNothingOrNone) (d' := d - 1) (bc' := 1) (bs' := 6) (as := [_]) dX3_putAll_8 w_464 ok_X3_requireThingNothingOrNone (m_requireThingNothingOrNone_k (Nat.le_refl _) (Nat.le_refl _) q8) (by omega) (Nat.le_of_ble_eq_true rfl) (by omega) (by omega) (fun E h' n' _ z => det_x z) (det_k ?_)
  refine sw_iload_n (pc' := 12) rfl dX3_putAll_11 rfl ?_
  rcases Classical.em (b < -1 ∨ 100 < b) with q12 | q12
  · refine sw_S (M' := MX3_requireThingNothingOrNone) (d' := d - 1) (bc' := 1) (bs' := 6) (as := [_]) dX3_putAll_12 w_464 ok_X3_requireThingNothingOrNone (m_requireThingNothingOrNone_x (Nat.le_refl _) (Nat.le_refl _) q12) (by omega) (Nat.le_of_ble_eq_true rfl) (by omega) (by omega) (dx_x (swx_out rfl ?_)) (fun v h' n' _ z => dx_k z)
    rw [opPutAll, onSh_k hk2, if_neg q8, if_pos q12]
    exact ⟨rfl, rfl, hR, FrC.rf⟩
  refine sw_S (M' := MX3_requireThingNothingOrNone) (d' := d - 1) (bc' := 1) (bs' := 6) (as := [_]) dX3_putAll_12 w_464 ok_X3_requireThingNothingOrNone (m_requireThingNothingOrNone_k (Nat.le_refl _) (Nat.le_refl _) q12) (by omega) (Nat.le_of_ble_eq_true rfl) (by omega) (by omega) (fun E h' n' _ z => det_x z) (det_k ?_)
  refine sw_iload (pc' := 17) rfl dX3_putAll_15 rfl ?_
  rcases Classical.em (c < -1 ∨ 100 < c) with q17 | q17
  · refine sw_S (M' := MX3_requireThingNothingOrNone) (d' := d - 1) (bc' := 1) (bs' := 6) (as := [_]) dX3_putAll_17 w_464 ok_X3_requireThingNothingOrNone (m_requireThingNothingOrNone_x (Nat.le_refl _) (Nat.le_refl _) q17) (by omega) (Nat.le_of_ble_eq_true rfl) (by omega) (by omega) (dx_x (swx_out rfl ?_)) (fun v h' n' _ z => dx_k z)
    rw [opPutAll, onSh_k hk2, if_neg q8, if_neg q12, if_pos q17]
    exact ⟨rfl, rfl, hR, FrC.rf⟩
  refine sw_S (M' := MX3_requireThingNothingOrNone) (d' := d - 1) (bc' := 1) (bs' := 6) (as := [_]) dX3_putAll_17 w_464 ok_X3_requireThingNothingOrNone (m_requireThingNothingOrNone_k (Nat.le_refl _) (Nat.le_refl _) q17) (by omega) (Nat.le_of_ble_eq_true rfl) (by omega) (by omega) (fun E h' n' _ z => det_x z) (det_k ?_)
  refine sw_iload (pc' := 22) rfl dX3_putAll_20 rfl ?_
  rcases Classical.em (e < -1 ∨ 100 < e) with q22 | q22
  · refine sw_S (M' := MX3_requireThingNothingOrNone) (d' := d - 1) (bc' := 1) (bs' := 6) (as := [_]) dX3_putAll_22 w_464 ok_X3_requireThingNothingOrNone (m_requireThingNothingOrNone_x (Nat.le_refl _) (Nat.le_refl _) q22) (by omega) (Nat.le_of_ble_eq_true rfl) (by omega) (by omega) (dx_x (swx_out rfl ?_)) (fun v h' n' _ z => dx_k z)
    rw [opPutAll, onSh_k hk2, if_neg q8, if_neg q12, if_neg q17, if_pos q22]
    exact ⟨rfl, rfl, hR, FrC.rf⟩
  refine sw_S (M' := MX3_requireThingNothingOrNone) (d' := d - 1) (bc' := 1) (bs' := 6) (as := [_]) dX3_putAll_22 w_464 ok_X3_requireThingNothingOrNone (m_requireThingNothingOrNone_k (Nat.le_refl _) (Nat.le_refl _) q22) (by omega) (Nat.le_of_ble_eq_true rfl) (by omega) (by omega) (fun E h' n' _ z => det_x z) (det_k ?_)
  refine sw_iload_n (pc' := 26) rfl dX3_putAll_25 rfl ?_
  refine sw_iload_n (pc' := 27) rfl dX3_putAll_26 rfl ?_
  refine sw_iload (pc' := 29) rfl dX3_putAll_27 rfl ?_
  refine sw_iload (pc' := 31) rfl dX3_putAll_29 rfl ?_
  refine sw_S (M' := MX3_countToFirstNone) (d' := d - 1) (bc' := 0) (bs' := 0) (as := [_, _, _, _]) dX3_putAll_31 w_468 ok_X3_countToFirstNone (m_countToFirstNone (by omega)) (by omega) (Nat.le_of_ble_eq_true rfl) (Nat.zero_le _) (Nat.zero_le _) (fun E h' n' _ z => det_x z) (det_k ?_)
  refine sw_istore (pc' := 36) (lv' := [(7, _), (6, _), (0, _), (1, _), (2, _), (3, _), (4, _), (5, _)]) rfl dX3_putAll_34 (by decide +kernel) rfl ?_
  refine sw_aload (pc' := 38) rfl dX3_putAll_36 rfl ?_
  refine sw_iload (pc' := 40) rfl dX3_putAll_38 rfl ?_
  rcases Classical.em (12 < nI (σ.2.1 k2) + nI (cfN a b c e 0 4)) with q40 | q40
  · refine sw_S (M' := MX3_requireRoom) (d' := d - 1) (bc' := 1) (bs' := 6) (as := [_, _]) dX3_putAll_40 w_411 ok_X3_requireRoom (m_requireRoom_x (hR.sh hk2) (Nat.le_refl _) (Nat.le_refl _) q40) (by omega) (Nat.le_of_ble_eq_true rfl) (by omega) (by omega) (dx_x (swx_out rfl ?_)) (fun v h' n' _ z => dx_k z)
    rw [opPutAll, onSh_k hk2, if_neg q8, if_neg q12, if_neg q17, if_neg q22, if_pos q40]
    exact ⟨rfl, rfl, hR, FrC.rf⟩
  refine sw_S (M' := MX3_requireRoom) (d' := d - 1) (bc' := 1) (bs' := 6) (as := [_, _]) dX3_putAll_40 w_411 ok_X3_requireRoom (m_requireRoom_k (hR.sh hk2) (Nat.le_refl _) (Nat.le_refl _) q40) (by omega) (Nat.le_of_ble_eq_true rfl) (by omega) (by omega) (fun E h' n' _ z => det_x z) (det_k ?_)
  refine sw_aload (pc' := 45) rfl dX3_putAll_43 rfl ?_
  refine sw_V (M' := MX1_isOfTable) (d' := d - 1) (bc' := 0) (bs' := 0) (ci := 2) (as := []) dX3_putAll_45 w_430 ok_X1_isOfTable (m_isOfTable (hR.sh hk2) kdO_r) (hR.sh hk2).1 rfl (by omega) (Nat.le_of_ble_eq_true rfl) (by omega) (by omega) (fun E h' n' _ z => det_x z) (det_k ?_)
  refine sw_if_eq (pc' := 51) (tgt := 56) rfl dX3_putAll_48 (by decide +kernel) (fun c48 => ?_) (fun c48 => ?_)
  · refine sw_iconst (pc' := 57) (v := 0) rfl dX3_putAll_56 (by decide +kernel) ?_
    refine sw_istore (pc' := 59) (lv' := [(8, _), (7, _), (6, _), (0, _), (1, _), (2, _), (3, _), (4, _), (5, _)]) rfl dX3_putAll_57 (by decide +kernel) rfl ?_
    have hcf := (cfN_le (a := a) (b := b) (c := c) (e := e) (m := 4) (j := 0)).2
    have hrm := nI_room (hR.sh hk2).2.2.1 (by omega) q40
    rw [opPutAll, onSh_k hk2, if_neg q8, if_neg q12, if_neg q17, if_neg q22, if_neg q40, if_neg (of_decide_eq_false (bI_0 c48))]
    refine l_putAll1 hR hk2 (by omega) (by omega) (cfN a b c e 0 4) 0 (by omega) (fun e1 => ?_) (fun e1 p pR pF => ?_)
    · rw [if_neg (by rw [e1]; decide)]
      refine sw_iconst (pc' := 97) (v := 0) rfl dX3_putAll_96 (by decide +kernel) ?_
      refine sw_istore (pc' := 99) (lv' := [(8, _), (7, _), (6, _), (0, _), (1, _), (2, _), (3, _), (4, _), (5, _)]) rfl dX3_putAll_97 (by decide +kernel) rfl ?_
      refine sw_iconst (pc' := 100) (v := 0) rfl dX3_putAll_99 (by decide +kernel) ?_
      refine sw_istore (pc' := 102) (lv' := [(9, _), (8, _), (7, _), (6, _), (0, _), (1, _), (2, _), (3, _), (4, _), (5, _)]) rfl dX3_putAll_100 (by decide +kernel) rfl ?_
      have g := l_putAll2 (h0 := h) (d := d) (bc := bc - 1 - 1 - 1 - 1 - 1 - 1) (bs := bs - 6 - 6 - 6 - 6 - 6 - 6) (n := n) (s := nI k2) (a := a) (b := b) (c := c) (e := e) hk2 (by omega) (cfN a b c e 0 4) 0 h false σ (by omega) hrm hR FrC.rf
      rw [Nat.zero_add] at g
      exact g
    · rw [if_pos e1]
      exact ⟨rfl, rfl, pR, pF⟩
  · refine sw_aload_n (pc' := 52) rfl dX3_putAll_51 rfl ?_
    refine sw_V (M' := MX3_refuse) (d' := d - 1) (bc' := 0) (bs' := 0) (ci := 4) (as := []) dX3_putAll_52 w_439 ok_X3_refuse (m_refuse hR) hR.1 rfl (by omega) (Nat.le_of_ble_eq_true rfl) (by omega) (by omega) (fun E h' n' _ z => cp_x z) (cp_k (fun p52 p52R p52F => ?_))
    refine sw_ret (v := some _) ⟨dX3_putAll_55, _, rfl, rfl⟩ ?_
    rw [opPutAll, onSh_k hk2, if_neg q8, if_neg q12, if_neg q17, if_neg q22, if_neg q40, if_pos (of_decide_eq_true (bI_1 c48))]
    exact ⟨rfl, rfl, p52R, p52F⟩
end
section
/-! 28.sound -/
/-! what isSound looks at -/
/-- the probes are otherwise, nothing else is -/
theorem rc_probe {h h' : AH} {σ : CS} (hR : RC h σ) (p1 : PrW h' 131) (p2 : PrW h' 132) (p3 : ∃ f c s t, ShF h' 133 1 f c s t) (hF : ∀ i, i < 131 ∨ 135 ≤ i → h' i = h i) : RC h' σ := by
  obtain ⟨g1, ⟨a, g2, g2'⟩, ⟨a1, g3, g3'⟩, g4, g5, g6, g7, g8, g9⟩ := id hR
  refine ⟨(hF 100 (by omega)).trans g1, ⟨a, (hF 101 (by omega)).trans g2, g2'⟩, ⟨a1, (hF 124 (by omega)).trans g3, g3'⟩, fun j hj => ⟨(hF _ (by omega)).trans (g4 j hj).1, (hF _ (by omega)).trans (g4 j hj).2.1, (g4 j hj).2.2⟩, fun j hj => ⟨(g5 j hj).1, (hF _ (by omega)).trans (g5 j hj).2.1, (g5 j hj).2.2⟩, p1, p2, p3, fun j h1 h2 => ⟨(g9 j h1 h2).1, (hF j (by omega)).trans (g9 j h1 h2).2⟩⟩
theorem hm_i {c i : Nat} {s : Int32} (hi : i ≤ 12) (hc : c ≤ 12) : hmB c s (nI i) 0 s = decide (i < c) := by
  unfold hmB
  rw [decide_eq_false (fun q : s ≠ s => q rfl), show nI i - 0 = nI i from Int32.sub_zero _, Bool.not_false, Bool.true_and]
  exact decide_eq_decide.mpr (nI_ltI (by omega) (by omega))
/-- two probes were used -/
def PgP (h : AH) (r : Option Value) (n : Nat) : ARes → AH → Nat → Prop := fun r' h' n' => r' = .inl r ∧ n' = n ∧ PrW h' 131 ∧ PrW h' 132 ∧ ∀ i, i ≠ 131 → i ≠ 132 → h' i = h i
theorem WkF.pr {h : AH} {w b : Nat} {mk la : Bool} {sh hw gi tk ss ts : Int32} (hW : WkF h w mk b sh hw gi tk ss ts la) : PrW h w := ⟨mk, b, sh, hw, gi, tk, ss, ts, la, hW⟩
theorem l_giveTheSame {d bc bs n k kd c : Nat} {f : Nat → Int32} {s t x y z : Int32} {rf kn : Int32} {h0 : AH} (hk : k < 11) (hd : 2 ≤ d) (hc : c ≤ 12) (m : Nat) : ∀ (i : Nat) (h : AH) (t1 t2 u1 u2 v1 v2 : Int32) (l1 l2 : Bool), i + m = c → h 100 = .inr (4, [.ref 101, .ref 124, .ref 131, .ref 132, .ref 133, .int rf, .int kn]) → WkF h 131 true (102 + 2 * k) u1 v1 (nI i) 0 s t1 l1 → WkF h 132 true (102 + 2 * k) u2 v2 (nI i) 0 s t2 l2 → ShF h (102 + 2 * k) kd f c s t → (∀ j, j ≠ 131 → j ≠ 132 → h j = h0 j) → SW SR0 MX3_giveTheSame d bc bs 33 [(5, .int (nI i)), (4, .ref (102 + 2 * k)), (0, .ref 100), (1, .int x), (2, .int y), (3, .int z)] [] h n (PgP h0 (some (.int 1)) n) := by
  induction m with
  | zero =>
    intro i h t1 t2 u1 u2 v1 v2 l1 l2 hi hO hA hB hS hF
    have hic : i = c := by omega
    subst hic
    have e0 : hmB i s (nI i) 0 s = false := (hm_i hc hc).trans (decide_eq_false (Nat.lt_irrefl _))
    refine sw_iload (pc' := 35) rfl dX3_giveTheSame_33 rfl ?_
    refine sw_bipush (pc' := 37) (v := 12) rfl dX3_giveTheSame_35 (by decide +kernel) ?_
    refine sw_icmp_ge (pc' := 40) (tgt := 85) rfl dX3_giveTheSame_37 (by decide +kernel) (fun c37 => ?_) (fun c37 => ?_)
    · refine sw_iload (pc' := 87) rfl dX3_giveTheSame_85 rfl ?_
      refine sw_aload (pc' := 89) rfl dX3_giveTheSame_87 rfl ?_
      refine sw_getf (ci := 2) (k := 2) (pc' := 92) rfl dX3_giveTheSame_89 (by decide +kernel) w_84 hS.1 rfl ?_
      refine sw_icmp_ne (pc' := 95) (tgt := 119) rfl dX3_giveTheSame_92 (by decide +kernel) (fun c92 => ?_) (fun c92 => ?_)
      · exact absurd rfl c92
      · refine sw_aload_n (pc' := 96) rfl dX3_giveTheSame_95 rfl ?_
        refine sw_getf (ci := 4) (k := 2) (pc' := 99) rfl dX3_giveTheSame_96 (by decide +kernel) w_152 hO rfl ?_
        refine sw_V (M' := MX2_hasMore) (d' := d - 1) (bc' := 0) (bs' := 0) (ci := 3) (as := []) dX3_giveTheSame_99 w_188 ok_X2_hasMore (m_hasMore hA hS (by omega)) hA.1 rfl (by omega) (Nat.le_of_ble_eq_true rfl) (Nat.zero_le _) (Nat.zero_le _) (fun E h' n' _ z => det_x z) (det_k ?_)
        rw [e0]
        refine sw_if_ne (pc' := 105) (tgt := 119) rfl dX3_giveTheSame_102 (by decide +kernel) (fun c102 => ?_) (fun c102 => ?_)
        · exact absurd rfl c102
        · refine sw_aload_n (pc' := 106) rfl dX3_giveTheSame_105 rfl ?_
          refine sw_getf (ci := 4) (k := 3) (pc' := 109) rfl dX3_giveTheSame_106 (by decide +kernel) w_153 hO rfl ?_
          refine sw_V (M' := MX2_hasMore) (d' := d - 1) (bc' := 0) (bs' := 0) (ci := 3) (as := []) dX3_giveTheSame_109 w_188 ok_X2_hasMore (m_hasMore hB hS (by omega)) hB.1 rfl (by omega) (Nat.le_of_ble_eq_true rfl) (Nat.zero_le _) (Nat.zero_le _) (fun E h' n' _ z => det_x z) (det_k ?_)
          rw [e0]
          refine sw_if_ne (pc' := 115) (tgt := 119) rfl dX3_giveTheSame_112 (by decide +kernel) (fun c112 => ?_) (fun c112 => ?_)
          · exact absurd rfl c112
          · refine sw_iconst (pc' := 116) (v := 1) rfl dX3_giveTheSame_115 (by decide +kernel) ?_
            refine sw_goto (tgt := 120) dX3_giveTheSame_116 (by decide +kernel) ?_
            refine sw_ret (v := some _) ⟨dX3_giveTheSame_120, _, rfl, rfl⟩ ?_
            exact ⟨rfl, rfl, hA.pr, hB.pr, hF⟩
    · refine sw_aload_n (pc' := 41) rfl dX3_giveTheSame_40 rfl ?_
      refine sw_getf (ci := 4) (k := 2) (pc' := 44) rfl dX3_giveTheSame_41 (by decide +kernel) w_152 hO rfl ?_
      refine sw_V (M' := MX2_hasMore) (d' := d - 1) (bc' := 0) (bs' := 0) (ci := 3) (as := []) dX3_giveTheSame_44 w_188 ok_X2_hasMore (m_hasMore hA hS (by omega)) hA.1 rfl (by omega) (Nat.le_of_ble_eq_true rfl) (Nat.zero_le _) (Nat.zero_le _) (fun E h' n' _ z => det_x z) (det_k ?_)
      rw [e0]
      refine sw_if_eq (pc' := 50) (tgt := 85) rfl dX3_giveTheSame_47 (by decide +kernel) (fun c47 => ?_) (fun c47 => ?_)
      · refine sw_iload (pc' := 87) rfl dX3_giveTheSame_85 rfl ?_
        refine sw_aload (pc' := 89) rfl dX3_giveTheSame_87 rfl ?_
        refine sw_getf (ci := 2) (k := 2) (pc' := 92) rfl dX3_giveTheSame_89 (by decide +kernel) w_84 hS.1 rfl ?_
        refine sw_icmp_ne (pc' := 95) (tgt := 119) rfl dX3_giveTheSame_92 (by decide +kernel) (fun c92 => ?_) (fun c92 => ?_)
        · exact absurd rfl c92
        · refine sw_aload_n (pc' := 96) rfl dX3_giveTheSame_95 rfl ?_
          refine sw_getf (ci := 4) (k := 2) (pc' := 99) rfl dX3_giveTheSame_96 (by decide +kernel) w_152 hO rfl ?_
          refine sw_V (M' := MX2_hasMore) (d' := d - 1) (bc' := 0) (bs' := 0) (ci := 3) (as := []) dX3_giveTheSame_99 w_188 ok_X2_hasMore (m_hasMore hA hS (by omega)) hA.1 rfl (by omega) (Nat.le_of_ble_eq_true rfl) (Nat.zero_le _) (Nat.zero_le _) (fun E h' n' _ z => det_x z) (det_k ?_)
          rw [e0]
          refine sw_if_ne (pc' := 105) (tgt := 119) rfl dX3_giveTheSame_102 (by decide +kernel) (fun c102 => ?_) (fun c102 => ?_)
          · exact absurd rfl c102
          · refine sw_aload_n (pc' := 106) rfl dX3_giveTheSame_105 rfl ?_
            refine sw_getf (ci := 4) (k := 3) (pc' := 109) rfl dX3_giveTheSame_106 (by decide +kernel) w_153 hO rfl ?_
            refine sw_V (M' := MX2_hasMore) (d' := d - 1) (bc' := 0) (bs' := 0) (ci := 3) (as := []) dX3_giveTheSame_109 w_188 ok_X2_hasMore (m_hasMore hB hS (by omega)) hB.1 rfl (by omega) (Nat.le_of_ble_eq_true rfl) (Nat.zero_le _) (Nat.zero_le _) (fun E h' n' _ z => det_x z) (det_k ?_)
            rw [e0]
            refine sw_if_ne (pc' := 115) (tgt := 119) rfl dX3_giveTheSame_112 (by decide +kernel) (fun c112 => ?_) (fun c112 => ?_)
            · exact absurd rfl c112
            · refine sw_iconst (pc' := 116) (v := 1) rfl dX3_giveTheSame_115 (by decide +kernel) ?_
              refine sw_goto (tgt := 120) dX3_giveTheSame_116 (by decide +kernel) ?_
              refine sw_ret (v := some _) ⟨dX3_giveTheSame_120, _, rfl, rfl⟩ ?_
              exact ⟨rfl, rfl, hA.pr, hB.pr, hF⟩
      · exact absurd rfl c47
  | succ m ih =>
    intro i h t1 t2 u1 u2 v1 v2 l1 l2 hi hO hA hB hS hF
    have e0 : hmB c s (nI i) 0 s = true := (hm_i (by omega) hc).trans (decide_eq_true (by omega))
    have hne1 : 102 + 2 * k ≠ 131 ∧ 102 + 2 * k + 1 ≠ 131 := by omega
    have hne2 : 102 + 2 * k ≠ 132 ∧ 102 + 2 * k + 1 ≠ 132 := by omega
    refine sw_iload (pc' := 35) rfl dX3_giveTheSame_33 rfl ?_
    refine sw_bipush (pc' := 37) (v := 12) rfl dX3_giveTheSame_35 (by decide +kernel) ?_
    refine sw_icmp_ge (pc' := 40) (tgt := 85) rfl dX3_giveTheSame_37 (by decide +kernel) (fun c37 => ?_) (fun c37 => ?_)
    · exact absurd c37 (nI_ge (b := 12) (by omega) (by decide +kernel))
    · refine sw_aload_n (pc' := 41) rfl dX3_giveTheSame_40 rfl ?_
      refine sw_getf (ci := 4) (k := 2) (pc' := 44) rfl dX3_giveTheSame_41 (by decide +kernel) w_152 hO rfl ?_
      refine sw_V (M' := MX2_hasMore) (d' := d - 1) (bc' := 0) (bs' := 0) (ci := 3) (as := []) dX3_giveTheSame_44 w_188 ok_X2_hasMore (m_hasMore hA hS (by omega)) hA.1 rfl (by omega) (Nat.le_of_ble_eq_true rfl) (Nat.zero_le _) (Nat.zero_le _) (fun E h' n' _ z => det_x z) (det_k ?_)
      rw [e0]
      refine sw_if_eq (pc' := 50) (tgt := 85) rfl dX3_giveTheSame_47 (by decide +kernel) (fun c47 => ?_) (fun c47 => ?_)
      · exact absurd c47 (by decide +kernel)
      · refine sw_aload_n (pc' := 51) rfl dX3_giveTheSame_50 rfl ?_
        refine sw_getf (ci := 4) (k := 3) (pc' := 54) rfl dX3_giveTheSame_51 (by decide +kernel) w_153 hO rfl ?_
        refine sw_V (M' := MX2_hasMore) (d' := d - 1) (bc' := 0) (bs' := 0) (ci := 3) (as := []) dX3_giveTheSame_54 w_188 ok_X2_hasMore (m_hasMore hB hS (by omega)) hB.1 rfl (by omega) (Nat.le_of_ble_eq_true rfl) (Nat.zero_le _) (Nat.zero_le _) (fun E h' n' _ z => det_x z) (det_k ?_)
        rw [e0]
        refine sw_if_eq (pc' := 60) (tgt := 85) rfl dX3_giveTheSame_57 (by decide +kernel) (fun c57 => ?_) (fun c57 => ?_)
        · exact absurd c57 (by decide +kernel)
        · refine sw_aload_n (pc' := 61) rfl dX3_giveTheSame_60 rfl ?_
          refine sw_getf (ci := 4) (k := 2) (pc' := 64) rfl dX3_giveTheSame_61 (by decide +kernel) w_152 hO rfl ?_
          refine sw_V (M' := MX2_give) (d' := d - 1) (bc' := 0) (bs' := 0) (ci := 3) (as := []) dX3_giveTheSame_64 w_200 ok_X2_give (m_give hA hS hne1 (by omega)) hA.1 rfl (by omega) (Nat.le_of_ble_eq_true rfl) (Nat.zero_le _) (Nat.zero_le _) (fun E h' n' _ z => wkp_x z) (wkp_k (fun p pW pF => ?_))
          refine sw_aload_n (pc' := 68) rfl dX3_giveTheSame_67 rfl ?_
          refine sw_getf (ci := 4) (k := 3) (pc' := 71) rfl dX3_giveTheSame_68 (by decide +kernel) w_153 ((pF 100 (by omega)).trans hO) rfl ?_
          refine sw_V (M' := MX2_give) (d' := d - 1) (bc' := 0) (bs' := 0) (ci := 3) (as := []) dX3_giveTheSame_71 w_200 ok_X2_give (m_give (hB.frW pF (by decide +kernel)) (hS.frW pF hne1) hne2 (by omega)) (hB.frW pF (by decide +kernel)).1 rfl (by omega) (Nat.le_of_ble_eq_true rfl) (Nat.zero_le _) (Nat.zero_le _) (fun E h' n' _ z => wkp_x z) (wkp_k (fun o oW oF => ?_))
          refine sw_icmp_eq (pc' := 77) (tgt := 79) rfl dX3_giveTheSame_74 (by decide +kernel) (fun c74 => ?_) (fun c74 => ?_)
          · refine sw_iinc (pc' := 82) (lv' := [(5, _), (4, _), (0, _), (1, _), (2, _), (3, _)]) (v := nI (i + 1)) rfl dX3_giveTheSame_79 rfl (nI_succ i).symm (by decide +kernel) rfl ?_
            refine sw_goto (tgt := 33) dX3_giveTheSame_82 (by decide +kernel) ?_
            have e1 : nI i + 1 = nI (i + 1) := (nI_succ i).symm
            rw [e1] at pW oW
            exact ih (i + 1) o t t u1 u2 v1 v2 true true (by omega) ((oF 100 (by omega)).trans ((pF 100 (by omega)).trans hO)) (pW.frW oF (by decide +kernel)) oW ((hS.frW pF hne1).frW oF hne2) (fun j h1 h2 => (oF j h2).trans ((pF j h1).trans (hF j h1 h2)))
          · exact absurd rfl c74
theorem m_giveTheSame {h : AH} {σ : CS} {d bc bs n k : Nat} {y z : Int32} (hR : RC h σ) (hk : k < 11) (hd : 2 ≤ d) : SM SR0 MX3_giveTheSame d bc bs [.ref 100, .int (nI k), .int y, .int z] h n (PgP h (some (.int 1)) n) := by
  obtain ⟨g, ga, gb⟩ := hR.2.1
  obtain ⟨mk1, b1, a1, a2, a3, a4, a5, a6, l1, P1⟩ := hR.2.2.2.2.2.1
  obtain ⟨mk2, b2, d1, d2, d3, d4, d5, d6, l2, P2⟩ := hR.2.2.2.2.2.2.1
  have hne1 : 102 + 2 * k ≠ 131 ∧ 102 + 2 * k + 1 ≠ 131 := by omega
  have hne2 : 102 + 2 * k ≠ 132 ∧ 102 + 2 * k + 1 ≠ 132 := by omega
  refine sm_of pn_Overwalks rfl (Nat.le_of_ble_eq_true rfl) ?_
  refine sw_aload_n (pc' := 1) rfl dX3_giveTheSame_0 rfl ?_
  refine sw_getf (ci := 4) (k := 0) (pc' := 4) rfl dX3_giveTheSame_1 (by decide +kernel) w_150 hR.1 rfl ?_
  refine sw_iload_n (pc' := 5) rfl dX3_giveTheSame_4 rfl ?_
  refine sw_aald (pc' := 6) rfl dX3_giveTheSame_5 ga (by decide +kernel) (by decide +kernel) rfl hk (by decide +kernel) (gb k hk) ?_
  refine sw_astore (pc' := 8) (lv' := [(4, _), (0, _), (1, _), (2, _), (3, _)]) rfl dX3_giveTheSame_6 (by decide +kernel) rfl ?_
  refine sw_aload_n (pc' := 9) rfl dX3_giveTheSame_8 rfl ?_
  refine sw_getf (ci := 4) (k := 2) (pc' := 12) rfl dX3_giveTheSame_9 (by decide +kernel) w_152 hR.1 rfl ?_
  refine sw_aload (pc' := 14) rfl dX3_giveTheSame_12 rfl ?_
  refine sw_iload_n (pc' := 15) rfl dX3_giveTheSame_14 rfl ?_
  refine sw_iload_n (pc' := 16) rfl dX3_giveTheSame_15 rfl ?_
  refine sw_V (M' := MX2_begin) (d' := d - 1) (bc' := 0) (bs' := 0) (ci := 3) (as := [_, _, _]) dX3_giveTheSame_16 w_184 ok_X2_begin (m_begin P1 (hR.sh hk) hne1) P1.1 rfl (by omega) (Nat.le_of_ble_eq_true rfl) (Nat.zero_le _) (Nat.zero_le _) (fun E h' n' _ z => wkp_x z) (wkp_k (fun p pW pF => ?_))
  refine sw_aload_n (pc' := 20) rfl dX3_giveTheSame_19 rfl ?_
  refine sw_getf (ci := 4) (k := 3) (pc' := 23) rfl dX3_giveTheSame_20 (by decide +kernel) w_153 ((pF 100 (by omega)).trans hR.1) rfl ?_
  refine sw_aload (pc' := 25) rfl dX3_giveTheSame_23 rfl ?_
  refine sw_iload_n (pc' := 26) rfl dX3_giveTheSame_25 rfl ?_
  refine sw_iload_n (pc' := 27) rfl dX3_giveTheSame_26 rfl ?_
  refine sw_V (M' := MX2_begin) (d' := d - 1) (bc' := 0) (bs' := 0) (ci := 3) (as := [_, _, _]) dX3_giveTheSame_27 w_184 ok_X2_begin (m_begin (P2.frW pF (by decide +kernel)) ((hR.sh hk).frW pF hne1) hne2) (P2.frW pF (by decide +kernel)).1 rfl (by omega) (Nat.le_of_ble_eq_true rfl) (Nat.zero_le _) (Nat.zero_le _) (fun E h' n' _ z => wkp_x z) (wkp_k (fun o oW oF => ?_))
  refine sw_iconst (pc' := 31) (v := 0) rfl dX3_giveTheSame_30 (by decide +kernel) ?_
  refine sw_istore (pc' := 33) (lv' := [(5, _), (4, _), (0, _), (1, _), (2, _), (3, _)]) rfl dX3_giveTheSame_31 (by decide +kernel) rfl ?_
  exact l_giveTheSame hk hd (hR.sh hk).2.2.1 (σ.2.1 k) 0 o _ _ _ _ _ _ _ _ (by omega) ((oF 100 (by omega)).trans ((pF 100 (by omega)).trans hR.1)) (pW.frW oF (by decide +kernel)) oW (((hR.sh hk).frW pF hne1).frW oF hne2) (fun j h1 h2 => (oF j h2).trans (pF j h1))
end
section
/-! 29.sound -/
/-! isItsList, isItsListBehindOneStep -/
def PgL (h : AH) (r : Option Value) (n : Nat) : ARes → AH → Nat → Prop := fun r' h' n' => r' = .inl r ∧ n' = n ∧ PrW h' 131 ∧ PrW h' 132 ∧ (∃ f c s t, ShF h' 133 1 f c s t) ∧ ∀ i, i < 131 ∨ 135 ≤ i → h' i = h i
theorem alB_of {f g : Nat → Int32} {m : Nat} : ∀ {j : Nat}, (∀ i, j ≤ i → i < j + m → f i = g i) → alB f g j m = true := by
  induction m with
  | zero => intro j _; rfl
  | succ m ih =>
    intro j h
    rw [alB, decide_eq_true (h j (Nat.le_refl _) (by omega)), Bool.true_and]
    exact ih (fun i h1 h2 => h i (by omega) (by omega))
theorem hsB_of {f g : Nat → Int32} {c e : Nat} (hc : c = e) (h : ∀ i, i < c → f i = g i) : hsB f g c e = true := by
  rw [hsB, decide_eq_true hc, Bool.true_and]
  exact alB_of (fun i _ h2 => h i (by omega))
theorem la_bl {f g : Nat → Int32} {c i : Nat} (hi : i < c) : laN (blN g f 1 (c - 1)) 0 (f 0) (c - 1) i = f i := by
  unfold laN
  by_cases e : i = 0
  · subst e
    exact up_s
  · rw [up_n e]
    unfold mvN blN
    rw [if_pos (by omega), if_pos (by omega)]
    congr 1
    omega
theorem m_isItsList {h : AH} {σ : CS} {d bc bs n k : Nat} (hR : RC h σ) (hk : k < 11) (hd : 5 ≤ d) : SM SR0 MX3_isItsList d bc bs [.ref 100, .int (nI k)] h n (PgL h (some (.int 1)) n) := by
  obtain ⟨g, ga, gb⟩ := hR.2.1
  obtain ⟨mk1, b1, a1, a2, a3, a4, a5, a6, l1, P1⟩ := hR.2.2.2.2.2.1
  obtain ⟨fp, cp, sp, tp, PL⟩ := hR.2.2.2.2.2.2.2.1
  have hS := hR.sh hk
  have hc := hS.2.2.1
  have hne1 : 102 + 2 * k ≠ 131 ∧ 102 + 2 * k + 1 ≠ 131 := by omega
  refine sm_of pn_Overwalks rfl (Nat.le_of_ble_eq_true rfl) ?_
  refine sw_aload_n (pc' := 1) rfl dX3_isItsList_0 rfl ?_
  refine sw_getf (ci := 4) (k := 2) (pc' := 4) rfl dX3_isItsList_1 (by decide +kernel) w_152 hR.1 rfl ?_
  refine sw_aload_n (pc' := 5) rfl dX3_isItsList_4 rfl ?_
  refine sw_getf (ci := 4) (k := 0) (pc' := 8) rfl dX3_isItsList_5 (by decide +kernel) w_150 hR.1 rfl ?_
  refine sw_iload_n (pc' := 9) rfl dX3_isItsList_8 rfl ?_
  refine sw_aald (pc' := 10) rfl dX3_isItsList_9 ga (by decide +kernel) (by decide +kernel) rfl hk (by decide +kernel) (gb k hk) ?_
  refine sw_iload_n (pc' := 11) rfl dX3_isItsList_10 rfl ?_
  refine sw_iconst (pc' := 12) (v := 0) rfl dX3_isItsList_11 (by decide +kernel) ?_
  refine sw_V (M' := MX2_begin) (d' := d - 1) (bc' := 0) (bs' := 0) (ci := 3) (as := [_, _, _]) dX3_isItsList_12 w_184 ok_X2_begin (m_begin P1 hS hne1) P1.1 rfl (by omega) (Nat.le_of_ble_eq_true rfl) (Nat.zero_le _) (Nat.zero_le _) (fun E h' n' _ z => wkp_x z) (wkp_k (fun p pW pF => ?_))
  have Sp := hS.frW pF hne1
  refine sw_aload_n (pc' := 16) rfl dX3_isItsList_15 rfl ?_
  refine sw_getf (ci := 4) (k := 2) (pc' := 19) rfl dX3_isItsList_16 (by decide +kernel) w_152 ((pF 100 (by omega)).trans hR.1) rfl ?_
  refine sw_aload_n (pc' := 20) rfl dX3_isItsList_19 rfl ?_
  refine sw_getf (ci := 4) (k := 4) (pc' := 23) rfl dX3_isItsList_20 (by decide +kernel) w_154 ((pF 100 (by omega)).trans hR.1) rfl ?_
  refine sw_S (M' := MX3_listRest) (d' := d - 1) (bc' := 0) (bs' := 0) (as := [_, _]) dX3_isItsList_23 w_212 ok_X3_listRest (m_listRest (A := 0) pW Sp (PL.frW pF (by decide +kernel)) ⟨hne1, by decide +kernel⟩ (by omega) rfl (Nat.zero_le _) (by omega)) (by omega) (Nat.le_of_ble_eq_true rfl) (Nat.zero_le _) (Nat.zero_le _) (fun E h' n' _ z => lr_x z) (lr_k (fun o oW oS oF => ?_))
  have So : ShF o (102 + 2 * k) (kdO k) (σ.1 k) (σ.2.1 k) (σ.2.2.1 k) (σ.2.2.2.1 k) := ⟨(oF _ hne1.1 (by omega) (by omega)).trans Sp.1, (oF _ hne1.2 (by omega) (by omega)).trans Sp.2.1, Sp.2.2⟩
  refine sw_pop (pc' := 27) rfl dX3_isItsList_26 rfl ?_
  refine sw_aload_n (pc' := 28) rfl dX3_isItsList_27 rfl ?_
  refine sw_getf (ci := 4) (k := 4) (pc' := 31) rfl dX3_isItsList_28 (by decide +kernel) w_154 ((oF 100 (by omega) (by omega) (by omega)).trans ((pF 100 (by omega)).trans hR.1)) rfl ?_
  refine sw_aload_n (pc' := 32) rfl dX3_isItsList_31 rfl ?_
  refine sw_getf (ci := 4) (k := 0) (pc' := 35) rfl dX3_isItsList_32 (by decide +kernel) w_150 ((oF 100 (by omega) (by omega) (by omega)).trans ((pF 100 (by omega)).trans hR.1)) rfl ?_
  refine sw_iload_n (pc' := 36) rfl dX3_isItsList_35 rfl ?_
  refine sw_aald (pc' := 37) rfl dX3_isItsList_36 ((oF 101 (by omega) (by omega) (by omega)).trans ((pF 101 (by omega)).trans ga)) (by decide +kernel) (by decide +kernel) rfl hk (by decide +kernel) (gb k hk) ?_
  refine sw_S (M' := MX3_haveTheSame) (d' := d - 1) (bc' := 0) (bs' := 0) (as := [_, _]) dX3_isItsList_37 w_227 ok_X3_haveTheSame (m_haveTheSame oS So (by omega)) (by omega) (Nat.le_of_ble_eq_true rfl) (Nat.zero_le _) (Nat.zero_le _) (fun E h' n' _ z => det_x z) (det_k ?_)
  rw [hsB_of (f := blN fp (σ.1 k) 0 (σ.2.1 k - 0)) (g := σ.1 k) (c := σ.2.1 k - 0) (e := σ.2.1 k) rfl (fun i hi => (if_pos hi).trans (by rw [Nat.zero_add]))]
  refine sw_ret (v := some _) ⟨dX3_isItsList_40, _, rfl, rfl⟩ ?_
  obtain ⟨mk2, b2, d1, d2, d3, d4, d5, d6, l2, P2⟩ := hR.2.2.2.2.2.2.1
  exact ⟨rfl, rfl, oW.pr, ⟨mk2, b2, d1, d2, d3, d4, d5, d6, l2, ⟨(oF 132 (by decide +kernel) (by decide +kernel) (by decide +kernel)).trans ((pF 132 (by decide +kernel)).trans P2.1), P2.2⟩⟩, ⟨_, _, _, _, oS⟩, fun i hi => (oF i (by omega) (by omega) (by omega)).trans (pF i (by omega))⟩
theorem m_isItsListBehindOneStep {h : AH} {σ : CS} {d bc bs n k : Nat} (hR : RC h σ) (hk : k < 11) (hd : 5 ≤ d) : SM SR0 MX3_isItsListBehindOneStep d bc bs [.ref 100, .int (nI k)] h n (PgL h (some (.int 1)) n) := by
  obtain ⟨g, ga, gb⟩ := hR.2.1
  obtain ⟨mk1, b1, a1, a2, a3, a4, a5, a6, l1, P1⟩ := hR.2.2.2.2.2.1
  obtain ⟨fp, cp, sp, tp, PL⟩ := hR.2.2.2.2.2.2.2.1
  have hS := hR.sh hk
  have hc := hS.2.2.1
  have hne1 : 102 + 2 * k ≠ 131 ∧ 102 + 2 * k + 1 ≠ 131 := by omega
  refine sm_of pn_Overwalks rfl (Nat.le_of_ble_eq_true rfl) ?_
  refine sw_aload_n (pc' := 1) rfl dX3_isItsListBehindOneStep_0 rfl ?_
  refine sw_getf (ci := 4) (k := 0) (pc' := 4) rfl dX3_isItsListBehindOneStep_1 (by decide +kernel) w_150 hR.1 rfl ?_
  refine sw_iload_n (pc' := 5) rfl dX3_isItsListBehindOneStep_4 rfl ?_
  refine sw_aald (pc' := 6) rfl dX3_isItsListBehindOneStep_5 ga (by decide +kernel) (by decide +kernel) rfl hk (by decide +kernel) (gb k hk) ?_
  refine sw_astore_n (pc' := 7) (lv' := [(2, _), (0, _), (1, _)]) rfl dX3_isItsListBehindOneStep_6 (by decide +kernel) rfl ?_
  refine sw_aload_n (pc' := 8) rfl dX3_isItsListBehindOneStep_7 rfl ?_
  refine sw_getf (ci := 2) (k := 2) (pc' := 11) rfl dX3_isItsListBehindOneStep_8 (by decide +kernel) w_84 hS.1 rfl ?_
  refine sw_if_ne (pc' := 14) (tgt := 16) rfl dX3_isItsListBehindOneStep_11 (by decide +kernel) (fun c11 => ?_) (fun c11 => ?_)
  · refine sw_aload_n (pc' := 17) rfl dX3_isItsListBehindOneStep_16 rfl ?_
    refine sw_getf (ci := 4) (k := 2) (pc' := 20) rfl dX3_isItsListBehindOneStep_17 (by decide +kernel) w_152 hR.1 rfl ?_
    refine sw_aload_n (pc' := 21) rfl dX3_isItsListBehindOneStep_20 rfl ?_
    refine sw_iload_n (pc' := 22) rfl dX3_isItsListBehindOneStep_21 rfl ?_
    refine sw_iconst (pc' := 23) (v := 0) rfl dX3_isItsListBehindOneStep_22 (by decide +kernel) ?_
    refine sw_V (M' := MX2_begin) (d' := d - 1) (bc' := 0) (bs' := 0) (ci := 3) (as := [_, _, _]) dX3_isItsListBehindOneStep_23 w_184 ok_X2_begin (m_begin P1 hS hne1) P1.1 rfl (by omega) (Nat.le_of_ble_eq_true rfl) (Nat.zero_le _) (Nat.zero_le _) (fun E h' n' _ z => wkp_x z) (wkp_k (fun p pW pF => ?_))
    have Sp := hS.frW pF hne1
    refine sw_aload_n (pc' := 27) rfl dX3_isItsListBehindOneStep_26 rfl ?_
    refine sw_getf (ci := 4) (k := 2) (pc' := 30) rfl dX3_isItsListBehindOneStep_27 (by decide +kernel) w_152 ((pF 100 (by omega)).trans hR.1) rfl ?_
    refine sw_V (M' := MX2_give) (d' := d - 1) (bc' := 0) (bs' := 0) (ci := 3) (as := []) dX3_isItsListBehindOneStep_30 w_200 ok_X2_give (m_give pW Sp hne1 (by omega)) pW.1 rfl (by omega) (Nat.le_of_ble_eq_true rfl) (Nat.zero_le _) (Nat.zero_le _) (fun E h' n' _ z => wkp_x z) (wkp_k (fun o oW oF => ?_))
    have So := Sp.frW oF hne1
    have hc0 : 0 < σ.2.1 k := Nat.pos_of_ne_zero (fun e => c11 (by rw [e]; rfl))
    rw [show taI (σ.1 k) (σ.2.1 k) ((0 : Int32) - 0) = σ.1 k 0 from taI_in hc0 hc]
    refine sw_istore_n (pc' := 34) (lv' := [(3, _), (2, _), (0, _), (1, _)]) rfl dX3_isItsListBehindOneStep_33 (by decide +kernel) rfl ?_
    refine sw_aload_n (pc' := 35) rfl dX3_isItsListBehindOneStep_34 rfl ?_
    refine sw_getf (ci := 4) (k := 2) (pc' := 38) rfl dX3_isItsListBehindOneStep_35 (by decide +kernel) w_152 ((oF 100 (by omega)).trans ((pF 100 (by omega)).trans hR.1)) rfl ?_
    refine sw_aload_n (pc' := 39) rfl dX3_isItsListBehindOneStep_38 rfl ?_
    refine sw_getf (ci := 4) (k := 4) (pc' := 42) rfl dX3_isItsListBehindOneStep_39 (by decide +kernel) w_154 ((oF 100 (by omega)).trans ((pF 100 (by omega)).trans hR.1)) rfl ?_
    refine sw_S (M' := MX3_listRest) (d' := d - 1) (bc' := 0) (bs' := 0) (as := [_, _]) dX3_isItsListBehindOneStep_42 w_212 ok_X3_listRest (m_listRest (A := 1) oW So ((PL.frW pF (by decide +kernel)).frW oF (by decide +kernel)) ⟨hne1, by decide +kernel⟩ (by omega) rfl hc0 (by omega)) (by omega) (Nat.le_of_ble_eq_true rfl) (Nat.zero_le _) (Nat.zero_le _) (fun E h' n' _ z => lr_x z) (lr_k (fun r rW rS rF => ?_))
    refine sw_pop (pc' := 46) rfl dX3_isItsListBehindOneStep_45 rfl ?_
    refine sw_aload_n (pc' := 47) rfl dX3_isItsListBehindOneStep_46 rfl ?_
    refine sw_getf (ci := 4) (k := 4) (pc' := 50) rfl dX3_isItsListBehindOneStep_47 (by decide +kernel) w_154 ((rF 100 (by omega) (by omega) (by omega)).trans ((oF 100 (by omega)).trans ((pF 100 (by omega)).trans hR.1))) rfl ?_
    refine sw_iconst (pc' := 51) (v := 0) rfl dX3_isItsListBehindOneStep_50 (by decide +kernel) ?_
    refine sw_iload_n (pc' := 52) rfl dX3_isItsListBehindOneStep_51 rfl ?_
    refine sw_V (M' := MX1_layAhead) (d' := d - 1) (bc' := 0) (bs' := 0) (ci := 2) (as := [_, _]) dX3_isItsListBehindOneStep_52 w_235 ok_X1_layAhead (m_layAhead (j := 0) rS (Nat.zero_le _) (by omega)) rS.1 rfl (by omega) (Nat.le_of_ble_eq_true rfl) (Nat.zero_le _) (Nat.zero_le _) (fun E h' n' _ z => shp_x z) (shp_k (fun u uS uF => ?_))
    have hF : ∀ i, i < 131 ∨ 135 ≤ i → u i = h i := fun i hi => (uF i (by omega) (by omega)).trans ((rF i (by omega) (by omega) (by omega)).trans ((oF i (by omega)).trans (pF i (by omega))))
    have Su : ShF u (102 + 2 * k) (kdO k) (σ.1 k) (σ.2.1 k) (σ.2.2.1 k) (σ.2.2.2.1 k) := ⟨(hF _ (by omega)).trans hS.1, (hF _ (by omega)).trans hS.2.1, hS.2.2⟩
    refine sw_pop (pc' := 56) rfl dX3_isItsListBehindOneStep_55 rfl ?_
    refine sw_aload_n (pc' := 57) rfl dX3_isItsListBehindOneStep_56 rfl ?_
    refine sw_getf (ci := 4) (k := 4) (pc' := 60) rfl dX3_isItsListBehindOneStep_57 (by decide +kernel) w_154 ((hF 100 (by omega)).trans hR.1) rfl ?_
    refine sw_aload_n (pc' := 61) rfl dX3_isItsListBehindOneStep_60 rfl ?_
    refine sw_S (M' := MX3_haveTheSame) (d' := d - 1) (bc' := 0) (bs' := 0) (as := [_, _]) dX3_isItsListBehindOneStep_61 w_227 ok_X3_haveTheSame (m_haveTheSame uS Su (by omega)) (by omega) (Nat.le_of_ble_eq_true rfl) (Nat.zero_le _) (Nat.zero_le _) (fun E h' n' _ z => det_x z) (det_k ?_)
    rw [hsB_of (f := laN (blN fp (σ.1 k) 1 (σ.2.1 k - 1)) 0 (σ.1 k 0) (σ.2.1 k - 1)) (g := σ.1 k) (c := σ.2.1 k - 1 + 1) (e := σ.2.1 k) (by omega) (fun i hi => la_bl (by omega))]
    refine sw_ret (v := some _) ⟨dX3_isItsListBehindOneStep_64, _, rfl, rfl⟩ ?_
    obtain ⟨mk2, b2, d1, d2, d3, d4, d5, d6, l2, P2⟩ := hR.2.2.2.2.2.2.1
    exact ⟨rfl, rfl, (rW.frS uF (by decide +kernel)).pr, ⟨mk2, b2, d1, d2, d3, d4, d5, d6, l2, ⟨(uF 132 (by decide +kernel) (by decide +kernel)).trans ((rF 132 (by decide +kernel) (by decide +kernel) (by decide +kernel)).trans ((oF 132 (by decide +kernel)).trans ((pF 132 (by decide +kernel)).trans P2.1))), P2.2⟩⟩, ⟨_, _, _, _, uS⟩, hF⟩
  · refine sw_iconst (pc' := 15) (v := 1) rfl dX3_isItsListBehindOneStep_14 (by decide +kernel) ?_
    refine sw_ret (v := some _) ⟨dX3_isItsListBehindOneStep_15, _, rfl, rfl⟩ ?_
    exact ⟨rfl, rfl, hR.2.2.2.2.2.1, hR.2.2.2.2.2.2.1, hR.2.2.2.2.2.2.2.1, fun _ _ => rfl⟩
end
section
/-! 30.sound -/
/-! isSound -/
theorem pg_k {A : Nat → AH → Option Value → Prop} {h : AH} {σ : CS} {n n0 : Nat} {r : Option Value} (hR : RC h σ) (k : ∀ h', RC h' σ → FrC h h' n → A n h' r) : ∀ (v : Option Value) (h' : AH) (n' : Nat), n0 ≤ n' → PgP h r n (.inl v) h' n' → A n' h' v := by
  rintro v h' n' - ⟨e, rfl, g1, g2, g3⟩
  cases e
  obtain ⟨f, c, s, t, L⟩ := hR.2.2.2.2.2.2.2.1
  exact k h' (rc_probe hR g1 g2 ⟨f, c, s, t, (g3 133 (by decide +kernel) (by decide +kernel)).trans L.1, (g3 134 (by decide +kernel) (by decide +kernel)).trans L.2.1, L.2.2⟩ (fun i hi => g3 i (by omega) (by omega))) (fun i hi _ => g3 i (by omega) (by omega))
theorem pg_x {A : Prop} {h : AH} {n : Nat} {r : Option Value} {E : String} {h' : AH} {n' : Nat} (z : PgP h r n (.inr E) h' n') : A := by cases z.1
theorem pl_k {A : Nat → AH → Option Value → Prop} {h : AH} {σ : CS} {n n0 : Nat} {r : Option Value} (hR : RC h σ) (k : ∀ h', RC h' σ → FrC h h' n → A n h' r) : ∀ (v : Option Value) (h' : AH) (n' : Nat), n0 ≤ n' → PgL h r n (.inl v) h' n' → A n' h' v := by
  rintro v h' n' - ⟨e, rfl, g1, g2, g3, g4⟩
  cases e
  exact k h' (rc_probe hR g1 g2 g3 g4) (fun i hi _ => g4 i (by omega))
theorem pl_x {A : Prop} {h : AH} {n : Nat} {r : Option Value} {E : String} {h' : AH} {n' : Nat} (z : PgL h r n (.inr E) h' n') : A := by cases z.1
def snB (σ : CS) : Bool := riB (σ.1 3) 1 (σ.2.1 3 - 1) && (riB (σ.1 6) 1 (σ.2.1 6 - 1) && (eoB (σ.1 4) (σ.2.1 4) 0 (σ.2.1 4) && decide (σ.2.1 6 = σ.2.1 7)))
theorem l_isSound {σ : CS} {d bc bs n : Nat} {h0 : AH} (hd : 6 ≤ d) (m : Nat) : ∀ (j : Nat) (h : AH), j + m = 11 → RC h σ → FrC h0 h n → SW SR0 MX3_isSound d bc bs 2 [(1, .int (nI j)), (0, .ref 100)] [] h n (CP h0 n (rI (bI (snB σ)), σ)) := by
  induction m with
  | zero =>
    intro j h hj hR hF
    have hj11 : j = 11 := by omega
    subst hj11
    refine sw_iload_n (pc' := 3) rfl dX3_isSound_2 rfl ?_
    refine sw_bipush (pc' := 5) (v := 11) rfl dX3_isSound_3 (by decide +kernel) ?_
    refine sw_icmp_ge (pc' := 8) (tgt := 42) rfl dX3_isSound_5 (by decide +kernel) (fun c5 => ?_) (fun c5 => ?_)
    · refine sw_aload_n (pc' := 43) rfl dX3_isSound_42 rfl ?_
      refine sw_iconst (pc' := 44) (v := 0) rfl dX3_isSound_43 (by decide +kernel) ?_
      refine sw_iconst (pc' := 45) (v := 0) rfl dX3_isSound_44 (by decide +kernel) ?_
      refine sw_iconst (pc' := 46) (v := 2) rfl dX3_isSound_45 (by decide +kernel) ?_
      refine sw_V (M' := MX3_giveTheSame) (d' := d - 1) (bc' := 0) (bs' := 0) (ci := 4) (as := [_, _, _]) dX3_isSound_46 w_180 ok_X3_giveTheSame (m_giveTheSame (k := 0) hR (by decide +kernel) (by omega)) hR.1 rfl (by omega) (Nat.le_of_ble_eq_true rfl) (Nat.zero_le _) (Nat.zero_le _) (fun E h' n' _ z => pg_x z) (pg_k hR (fun p46 p46R p46F => ?_))
      refine sw_if_eq (pc' := 52) (tgt := 116) rfl dX3_isSound_49 (by decide +kernel) (fun c49 => ?_) (fun c49 => ?_)
      · exact absurd (show (1 : Int32) = 0 from c49) (by decide +kernel)
      · obtain ⟨g, ga, gb⟩ := p46R.2.1
        refine sw_aload_n (pc' := 53) rfl dX3_isSound_52 rfl ?_
        refine sw_getf (ci := 4) (k := 0) (pc' := 56) rfl dX3_isSound_53 (by decide +kernel) w_150 p46R.1 rfl ?_
        refine sw_iconst (pc' := 57) (v := 3) rfl dX3_isSound_56 (by decide +kernel) ?_
        refine sw_aald (pc' := 58) rfl dX3_isSound_57 ga (by decide +kernel) (by decide +kernel) (j := 3) rfl (by decide +kernel) (by decide +kernel) (gb 3 (by decide +kernel)) ?_
        refine sw_V (M' := MX1_rises) (d' := d - 1) (bc' := 0) (bs' := 0) (ci := 2) (as := []) dX3_isSound_58 w_239 ok_X1_rises (m_rises (p46R.sh (k := 3) (by decide +kernel))) (p46R.sh (k := 3) (by decide +kernel)).1 rfl (by omega) (Nat.le_of_ble_eq_true rfl) (Nat.zero_le _) (Nat.zero_le _) (fun E h' n' _ z => det_x z) (det_k ?_)
        refine sw_if_eq (pc' := 64) (tgt := 116) rfl dX3_isSound_61 (by decide +kernel) (fun c61 => ?_) (fun c61 => ?_)
        · refine sw_iconst (pc' := 117) (v := 0) rfl dX3_isSound_116 (by decide +kernel) ?_
          refine sw_ret (v := some _) ⟨dX3_isSound_117, _, rfl, rfl⟩ ?_
          exact ⟨by rw [snB, bI_0 c61, Bool.false_and]; rfl, rfl, p46R, hF.tr p46F (Nat.le_refl _)⟩
        · refine sw_aload_n (pc' := 65) rfl dX3_isSound_64 rfl ?_
          refine sw_getf (ci := 4) (k := 0) (pc' := 68) rfl dX3_isSound_65 (by decide +kernel) w_150 p46R.1 rfl ?_
          refine sw_bipush (pc' := 70) (v := 6) rfl dX3_isSound_68 (by decide +kernel) ?_
          refine sw_aald (pc' := 71) rfl dX3_isSound_70 ga (by decide +kernel) (by decide +kernel) (j := 6) rfl (by decide +kernel) (by decide +kernel) (gb 6 (by decide +kernel)) ?_
          refine sw_V (M' := MX1_rises) (d' := d - 1) (bc' := 0) (bs' := 0) (ci := 2) (as := []) dX3_isSound_71 w_239 ok_X1_rises (m_rises (p46R.sh (k := 6) (by decide +kernel))) (p46R.sh (k := 6) (by decide +kernel)).1 rfl (by omega) (Nat.le_of_ble_eq_true rfl) (Nat.zero_le _) (Nat.zero_le _) (fun E h' n' _ z => det_x z) (det_k ?_)
          refine sw_if_eq (pc' := 77) (tgt := 116) rfl dX3_isSound_74 (by decide +kernel) (fun c74 => ?_) (fun c74 => ?_)
          · refine sw_iconst (pc' := 117) (v := 0) rfl dX3_isSound_116 (by decide +kernel) ?_
            refine sw_ret (v := some _) ⟨dX3_isSound_117, _, rfl, rfl⟩ ?_
            exact ⟨by rw [snB, bI_1 c61, bI_0 c74, Bool.false_and, Bool.and_false]; rfl, rfl, p46R, hF.tr p46F (Nat.le_refl _)⟩
          · refine sw_aload_n (pc' := 78) rfl dX3_isSound_77 rfl ?_
            refine sw_getf (ci := 4) (k := 0) (pc' := 81) rfl dX3_isSound_78 (by decide +kernel) w_150 p46R.1 rfl ?_
            refine sw_iconst (pc' := 82) (v := 4) rfl dX3_isSound_81 (by decide +kernel) ?_
            refine sw_aald (pc' := 83) rfl dX3_isSound_82 ga (by decide +kernel) (by decide +kernel) (j := 4) rfl (by decide +kernel) (by decide +kernel) (gb 4 (by decide +kernel)) ?_
            refine sw_V (M' := MX1_hasEachOnce) (d' := d - 1) (bc' := 0) (bs' := 0) (ci := 2) (as := []) dX3_isSound_83 w_243 ok_X1_hasEachOnce (m_hasEachOnce (p46R.sh (k := 4) (by decide +kernel)) (by omega)) (p46R.sh (k := 4) (by decide +kernel)).1 rfl (by omega) (Nat.le_of_ble_eq_true rfl) (Nat.zero_le _) (Nat.zero_le _) (fun E h' n' _ z => det_x z) (det_k ?_)
            refine sw_if_eq (pc' := 89) (tgt := 116) rfl dX3_isSound_86 (by decide +kernel) (fun c86 => ?_) (fun c86 => ?_)
            · refine sw_iconst (pc' := 117) (v := 0) rfl dX3_isSound_116 (by decide +kernel) ?_
              refine sw_ret (v := some _) ⟨dX3_isSound_117, _, rfl, rfl⟩ ?_
              exact ⟨by rw [snB, bI_1 c61, bI_1 c74, bI_0 c86, Bool.false_and, Bool.and_false, Bool.and_false]; rfl, rfl, p46R, hF.tr p46F (Nat.le_refl _)⟩
            · refine sw_aload_n (pc' := 90) rfl dX3_isSound_89 rfl ?_
              refine sw_getf (ci := 4) (k := 0) (pc' := 93) rfl dX3_isSound_90 (by decide +kernel) w_150 p46R.1 rfl ?_
              refine sw_bipush (pc' := 95) (v := 6) rfl dX3_isSound_93 (by decide +kernel) ?_
              refine sw_aald (pc' := 96) rfl dX3_isSound_95 ga (by decide +kernel) (by decide +kernel) (j := 6) rfl (by decide +kernel) (by decide +kernel) (gb 6 (by decide +kernel)) ?_
              refine sw_getf (ci := 2) (k := 2) (pc' := 99) rfl dX3_isSound_96 (by decide +kernel) w_84 (p46R.sh (k := 6) (by decide +kernel)).1 rfl ?_
              refine sw_aload_n (pc' := 100) rfl dX3_isSound_99 rfl ?_
              refine sw_getf (ci := 4) (k := 0) (pc' := 103) rfl dX3_isSound_100 (by decide +kernel) w_150 p46R.1 rfl ?_
              refine sw_bipush (pc' := 105) (v := 7) rfl dX3_isSound_103 (by decide +kernel) ?_
              refine sw_aald (pc' := 106) rfl dX3_isSound_105 ga (by decide +kernel) (by decide +kernel) (j := 7) rfl (by decide +kernel) (by decide +kernel) (gb 7 (by decide +kernel)) ?_
              refine sw_getf (ci := 2) (k := 2) (pc' := 109) rfl dX3_isSound_106 (by decide +kernel) w_84 (p46R.sh (k := 7) (by decide +kernel)).1 rfl ?_
              refine sw_icmp_ne (pc' := 112) (tgt := 116) rfl dX3_isSound_109 (by decide +kernel) (fun c109 => ?_) (fun c109 => ?_)
              · refine sw_iconst (pc' := 117) (v := 0) rfl dX3_isSound_116 (by decide +kernel) ?_
                refine sw_ret (v := some _) ⟨dX3_isSound_117, _, rfl, rfl⟩ ?_
                exact ⟨by rw [snB, bI_1 c61, bI_1 c74, bI_1 c86, decide_eq_false (fun e => c109 (congrArg nI e))]; rfl, rfl, p46R, hF.tr p46F (Nat.le_refl _)⟩
              · refine sw_iconst (pc' := 113) (v := 1) rfl dX3_isSound_112 (by decide +kernel) ?_
                refine sw_goto (tgt := 117) dX3_isSound_113 (by decide +kernel) ?_
                refine sw_ret (v := some _) ⟨dX3_isSound_117, _, rfl, rfl⟩ ?_
                exact ⟨by rw [snB, bI_1 c61, bI_1 c74, bI_1 c86, decide_eq_true ((nI_eq (by have := (p46R.sh (k := 6) (by decide +kernel)).2.2.1; omega) (by have := (p46R.sh (k := 7) (by decide +kernel)).2.2.1; omega)).mp c109)]; rfl, rfl, p46R, hF.tr p46F (Nat.le_refl _)⟩
    · exact absurd (Int32.le_refl (nI 11)) c5
  | succ m ih =>
    intro j h hm hR hF
    have hj : j < 11 := by omega
    refine sw_iload_n (pc' := 3) rfl dX3_isSound_2 rfl ?_
    refine sw_bipush (pc' := 5) (v := 11) rfl dX3_isSound_3 (by decide +kernel) ?_
    refine sw_icmp_ge (pc' := 8) (tgt := 42) rfl dX3_isSound_5 (by decide +kernel) (fun c5 => ?_) (fun c5 => ?_)
    · exact absurd c5 (nI_ge (b := 11) (by omega) (by decide +kernel))
    · refine sw_aload_n (pc' := 9) rfl dX3_isSound_8 rfl ?_
      refine sw_iload_n (pc' := 10) rfl dX3_isSound_9 rfl ?_
      refine sw_iconst (pc' := 11) (v := 0) rfl dX3_isSound_10 (by decide +kernel) ?_
      refine sw_iconst (pc' := 12) (v := 1) rfl dX3_isSound_11 (by decide +kernel) ?_
      refine sw_V (M' := MX3_giveTheSame) (d' := d - 1) (bc' := 0) (bs' := 0) (ci := 4) (as := [_, _, _]) dX3_isSound_12 w_180 ok_X3_giveTheSame (m_giveTheSame (k := j) hR hj (by omega)) hR.1 rfl (by omega) (Nat.le_of_ble_eq_true rfl) (Nat.zero_le _) (Nat.zero_le _) (fun E h' n' _ z => pg_x z) (pg_k hR (fun p12 p12R p12F => ?_))
      refine sw_if_eq (pc' := 18) (tgt := 34) rfl dX3_isSound_15 (by decide +kernel) (fun c15 => ?_) (fun c15 => ?_)
      · exact absurd (show (1 : Int32) = 0 from c15) (by decide +kernel)
      · refine sw_aload_n (pc' := 19) rfl dX3_isSound_18 rfl ?_
        refine sw_iload_n (pc' := 20) rfl dX3_isSound_19 rfl ?_
        refine sw_V (M' := MX3_isItsList) (d' := d - 1) (bc' := 0) (bs' := 0) (ci := 4) (as := [_]) dX3_isSound_20 w_208 ok_X3_isItsList (m_isItsList p12R hj (by omega)) p12R.1 rfl (by omega) (Nat.le_of_ble_eq_true rfl) (Nat.zero_le _) (Nat.zero_le _) (fun E h' n' _ z => pl_x z) (pl_k p12R (fun p20 p20R p20F => ?_))
        refine sw_if_eq (pc' := 26) (tgt := 34) rfl dX3_isSound_23 (by decide +kernel) (fun c23 => ?_) (fun c23 => ?_)
        · exact absurd (show (1 : Int32) = 0 from c23) (by decide +kernel)
        · refine sw_aload_n (pc' := 27) rfl dX3_isSound_26 rfl ?_
          refine sw_iload_n (pc' := 28) rfl dX3_isSound_27 rfl ?_
          refine sw_V (M' := MX3_isItsListBehindOneStep) (d' := d - 1) (bc' := 0) (bs' := 0) (ci := 4) (as := [_]) dX3_isSound_28 w_231 ok_X3_isItsListBehindOneStep (m_isItsListBehindOneStep p20R hj (by omega)) p20R.1 rfl (by omega) (Nat.le_of_ble_eq_true rfl) (Nat.zero_le _) (Nat.zero_le _) (fun E h' n' _ z => pl_x z) (pl_k p20R (fun p28 p28R p28F => ?_))
          refine sw_if_ne (pc' := 34) (tgt := 36) rfl dX3_isSound_31 (by decide +kernel) (fun c31 => ?_) (fun c31 => ?_)
          · refine sw_iinc (pc' := 39) (lv' := [(1, _), (0, _)]) (v := nI (j + 1)) rfl dX3_isSound_36 rfl (nI_succ j).symm (by decide +kernel) rfl ?_
            refine sw_goto (tgt := 2) dX3_isSound_39 (by decide +kernel) ?_
            exact ih (j + 1) p28 (by omega) p28R (((hF.tr p12F (Nat.le_refl _)).tr p20F (Nat.le_refl _)).tr p28F (Nat.le_refl _))
          · exact absurd (show (1 : Int32) = 0 from c31) (by decide +kernel)
theorem m_isSound {h : AH} {σ : CS} {d bc bs n : Nat} (hR : RC h σ) (hd : 6 ≤ d) : SM SR0 MX3_isSound d bc bs [.ref 100] h n (CP h n (rI (bI (snB σ)), σ)) := by
  refine sm_of pn_Overwalks rfl (Nat.le_of_ble_eq_true rfl) ?_
  refine sw_iconst (pc' := 1) (v := 0) rfl dX3_isSound_0 (by decide +kernel) ?_
  refine sw_istore_n (pc' := 2) (lv' := [(1, _), (0, _)]) rfl dX3_isSound_1 (by decide +kernel) rfl ?_
  exact l_isSound hd 11 0 h rfl hR FrC.rf
end
section
/-! 31.digest -/
/-! digest; house and ofWalk where they throw nothing -/
def hoV (σ : CS) (x : Int32) : Int32 := if x = 0 then cnT σ else if x = 1 then cnN σ else if x = 2 then cnW σ else if x = 3 then cnS σ else if x = 4 then σ.2.2.2.2.2.1 else σ.2.2.2.2.2.2
def owV (σ : CS) (k : Nat) (x : Int32) : Int32 := if (σ.2.2.2.2.1 k).1 = false then -1 else if x = 0 then nI (wO σ k) else if x = 1 then (σ.2.2.2.2.1 k).2.2.1 else if x = 2 then (σ.2.2.2.2.1 k).2.2.2.1 else bI (wSt σ k)
def dgN (g : Nat → Int32) : Nat → Nat → Int64 → Int64
  | _, 0, v => v
  | j, m + 1, v => dgN g (j + 1) m (v * 31 + (g j).toInt64)
def dgS (σ : CS) : Nat → Nat → Int64 → Int64
  | _, 0, v => v
  | k, m + 1, v => dgS σ (k + 1) m (dgN (σ.1 k) 0 (σ.2.1 k) (v * 31 + (nI (σ.2.1 k)).toInt64))
def dgW (σ : CS) : Nat → Nat → Int64 → Int64
  | _, 0, v => v
  | k, m + 1, v => dgW σ (k + 1) m (dgN (fun x => owV σ k (nI x)) 0 4 v)
theorem in6 {x : Int32} (h : ¬ (x < 0 ∨ 5 < x)) (q : x.toInt < 0 ∨ 5 < x.toInt) : False := h (q.imp (fun e => Int32.lt_iff_toInt_lt.mpr e) (fun e => Int32.lt_iff_toInt_lt.mpr e))
theorem nin {N j : Nat} (hN : N < 2 ^ 31) (h : j ≤ N) : ¬ (nI j < 0 ∨ nI N < nI j) := fun q => q.elim (nI_pos (by omega)) (nI_nlt h (by omega))
theorem m_houseK {h : AH} {σ : CS} {d bc bs n : Nat} {x : Int32} (hR : RC h σ) (hd : 3 ≤ d) (hx : ¬ (x < 0 ∨ 5 < x)) : SM SR0 MX3_house d bc bs [.ref 100, .int x] h n (Det (rI (hoV σ x)) h n) := by
  refine sm_of pn_Overwalks rfl (Nat.le_of_ble_eq_true rfl) ?_
  refine sw_iload_n (pc' := 1) rfl dX3_house_0 rfl ?_
  rcases Classical.em (x = 0) with t1_0 | t1_0
  · refine sw_tableIn (tgt := 40) dX3_house_1 (by rw [t1_0]; decide) (by rw [t1_0]; decide) (by rw [t1_0]; rfl) (by decide +kernel) ?_
    refine sw_aload_n (pc' := 41) rfl dX3_house_40 rfl ?_
    refine sw_V (M' := MX3_countThings) (d' := d - 1) (bc' := 0) (bs' := 0) (ci := 4) (as := []) dX3_house_41 w_261 ok_X3_countThings (m_countThings hR (by omega)) hR.1 rfl (by omega) (Nat.le_of_ble_eq_true rfl) (Nat.zero_le _) (Nat.zero_le _) (fun E h' n' _ z => det_x z) (det_k ?_)
    refine sw_ret (v := some _) ⟨dX3_house_44, _, rfl, rfl⟩ ?_
    exact ⟨by rw [hoV, if_pos t1_0]; rfl, rfl, rfl⟩
  rcases Classical.em (x = 1) with t1_1 | t1_1
  · refine sw_tableIn (tgt := 45) dX3_house_1 (by rw [t1_1]; decide) (by rw [t1_1]; decide) (by rw [t1_1]; rfl) (by decide +kernel) ?_
    refine sw_aload_n (pc' := 46) rfl dX3_house_45 rfl ?_
    refine sw_V (M' := MX3_countNothings) (d' := d - 1) (bc' := 0) (bs' := 0) (ci := 4) (as := []) dX3_house_46 w_265 ok_X3_countNothings (m_countNothings hR (by omega)) hR.1 rfl (by omega) (Nat.le_of_ble_eq_true rfl) (Nat.zero_le _) (Nat.zero_le _) (fun E h' n' _ z => det_x z) (det_k ?_)
    refine sw_ret (v := some _) ⟨dX3_house_49, _, rfl, rfl⟩ ?_
    exact ⟨by rw [hoV, if_neg t1_0, if_pos t1_1]; rfl, rfl, rfl⟩
  rcases Classical.em (x = 2) with t1_2 | t1_2
  · refine sw_tableIn (tgt := 50) dX3_house_1 (by rw [t1_2]; decide) (by rw [t1_2]; decide) (by rw [t1_2]; rfl) (by decide +kernel) ?_
    refine sw_aload_n (pc' := 51) rfl dX3_house_50 rfl ?_
    refine sw_V (M' := MX3_countWalks) (d' := d - 1) (bc' := 0) (bs' := 0) (ci := 4) (as := []) dX3_house_51 w_273 ok_X3_countWalks (m_countWalks hR (by omega)) hR.1 rfl (by omega) (Nat.le_of_ble_eq_true rfl) (Nat.zero_le _) (Nat.zero_le _) (fun E h' n' _ z => det_x z) (det_k ?_)
    refine sw_ret (v := some _) ⟨dX3_house_54, _, rfl, rfl⟩ ?_
    exact ⟨by rw [hoV, if_neg t1_0, if_neg t1_1, if_pos t1_2]; rfl, rfl, rfl⟩
  rcases Classical.em (x = 3) with t1_3 | t1_3
  · refine sw_tableIn (tgt := 55) dX3_house_1 (by rw [t1_3]; decide) (by rw [t1_3]; decide) (by rw [t1_3]; rfl) (by decide +kernel) ?_
    refine sw_aload_n (pc' := 56) rfl dX3_house_55 rfl ?_
    refine sw_V (M' := MX3_countStaleWalks) (d' := d - 1) (bc' := 0) (bs' := 0) (ci := 4) (as := []) dX3_house_56 w_280 ok_X3_countStaleWalks (m_countStaleWalks hR (by omega)) hR.1 rfl (by omega) (Nat.le_of_ble_eq_true rfl) (Nat.zero_le _) (Nat.zero_le _) (fun E h' n' _ z => det_x z) (det_k ?_)
    refine sw_ret (v := some _) ⟨dX3_house_59, _, rfl, rfl⟩ ?_
    exact ⟨by rw [hoV, if_neg t1_0, if_neg t1_1, if_neg t1_2, if_pos t1_3]; rfl, rfl, rfl⟩
  rcases Classical.em (x = 4) with t1_4 | t1_4
  · refine sw_tableIn (tgt := 60) dX3_house_1 (by rw [t1_4]; decide) (by rw [t1_4]; decide) (by rw [t1_4]; rfl) (by decide +kernel) ?_
    refine sw_aload_n (pc' := 61) rfl dX3_house_60 rfl ?_
    refine sw_getf (ci := 4) (k := 5) (pc' := 64) rfl dX3_house_61 (by decide +kernel) w_155 hR.1 rfl ?_
    refine sw_ret (v := some _) ⟨dX3_house_64, _, rfl, rfl⟩ ?_
    exact ⟨by rw [hoV, if_neg t1_0, if_neg t1_1, if_neg t1_2, if_neg t1_3, if_pos t1_4]; rfl, rfl, rfl⟩
  rcases Classical.em (x = 5) with t1_5 | t1_5
  · refine sw_tableIn (tgt := 65) dX3_house_1 (by rw [t1_5]; decide) (by rw [t1_5]; decide) (by rw [t1_5]; rfl) (by decide +kernel) ?_
    refine sw_aload_n (pc' := 66) rfl dX3_house_65 rfl ?_
    refine sw_getf (ci := 4) (k := 6) (pc' := 69) rfl dX3_house_66 (by decide +kernel) w_156 hR.1 rfl ?_
    refine sw_ret (v := some _) ⟨dX3_house_69, _, rfl, rfl⟩ ?_
    exact ⟨by rw [hoV, if_neg t1_0, if_neg t1_1, if_neg t1_2, if_neg t1_3, if_neg t1_4]; rfl, rfl, rfl⟩
  exact (in6 hx (ts6 t1_0 t1_1 t1_2 t1_3 t1_4 t1_5)).elim
theorem m_ofWalkK {h : AH} {σ : CS} {d bc bs n k : Nat} {x : Int32} (hR : RC h σ) (hk : k < 6) (h1 : 1 ≤ bc) (h2 : 6 ≤ bs) (hd : 3 ≤ d) (hx : ¬ (x < 0 ∨ 3 < x)) : SM SR0 MX3_ofWalk d bc bs [.ref 100, .int (nI k), .int x] h n (Det (rI (owV σ k x)) h n) := by
  refine sm_of pn_Overwalks rfl (Nat.le_of_ble_eq_true rfl) ?_
  refine sw_aload_n (pc' := 1) rfl dX3_ofWalk_0 rfl ?_
  refine sw_iload_n (pc' := 2) rfl dX3_ofWalk_1 rfl ?_
  refine sw_V (M' := MX3_walkAt) (d' := d - 1) (bc' := 1) (bs' := 6) (ci := 4) (as := [_]) dX3_ofWalk_2 w_357 ok_X3_walkAt (m_walkAt_k hR (Nat.le_refl _) (Nat.le_refl _) hk) hR.1 rfl (by omega) (Nat.le_of_ble_eq_true rfl) h1 h2 (fun E h' n' _ z => det_x z) (det_k ?_)
  refine sw_astore_n (pc' := 6) (lv' := [(3, _), (0, _), (1, _), (2, _)]) rfl dX3_ofWalk_5 (by decide +kernel) rfl ?_
  refine sw_iload_n (pc' := 7) rfl dX3_ofWalk_6 rfl ?_
  refine sw_if_lt (pc' := 10) (tgt := 15) rfl dX3_ofWalk_7 (by decide +kernel) (fun c7 => ?_) (fun c7 => ?_)
  · exact (hx (Or.inl c7)).elim
  · refine sw_iload_n (pc' := 11) rfl dX3_ofWalk_10 rfl ?_
    refine sw_iconst (pc' := 12) (v := 3) rfl dX3_ofWalk_11 (by decide +kernel) ?_
    refine sw_icmp_le (pc' := 15) (tgt := 26) rfl dX3_ofWalk_12 (by decide +kernel) (fun c12 => ?_) (fun c12 => ?_)
    · refine sw_aload_n (pc' := 27) rfl dX3_ofWalk_26 rfl ?_
      refine sw_getf (ci := 3) (k := 0) (pc' := 30) rfl dX3_ofWalk_27 (by decide +kernel) w_118 (hR.wk hk).2.1 rfl ?_
      refine sw_if_ne (pc' := 33) (tgt := 35) rfl dX3_ofWalk_30 (by decide +kernel) (fun c30 => ?_) (fun c30 => ?_)
      · refine sw_iload_n (pc' := 36) rfl dX3_ofWalk_35 rfl ?_
        rcases Classical.em (x = 0) with t36_0 | t36_0
        · refine sw_tableIn (tgt := 64) dX3_ofWalk_36 (by rw [t36_0]; decide) (by rw [t36_0]; decide) (by rw [t36_0]; rfl) (by decide +kernel) ?_
          refine sw_aload_n (pc' := 65) rfl dX3_ofWalk_64 rfl ?_
          refine sw_getf (ci := 3) (k := 2) (pc' := 68) rfl dX3_ofWalk_65 (by decide +kernel) w_122 (hR.wk hk).2.1 rfl ?_
          refine sw_ret (v := some _) ⟨dX3_ofWalk_68, _, rfl, rfl⟩ ?_
          exact ⟨by rw [owV, if_neg (fun e : (σ.2.2.2.2.1 k).1 = false => by rw [e] at c30; exact c30 rfl), if_pos t36_0]; rfl, rfl, rfl⟩
        rcases Classical.em (x = 1) with t36_1 | t36_1
        · refine sw_tableIn (tgt := 69) dX3_ofWalk_36 (by rw [t36_1]; decide) (by rw [t36_1]; decide) (by rw [t36_1]; rfl) (by decide +kernel) ?_
          refine sw_aload_n (pc' := 70) rfl dX3_ofWalk_69 rfl ?_
          refine sw_getf (ci := 3) (k := 3) (pc' := 73) rfl dX3_ofWalk_70 (by decide +kernel) w_124 (hR.wk hk).2.1 rfl ?_
          refine sw_ret (v := some _) ⟨dX3_ofWalk_73, _, rfl, rfl⟩ ?_
          exact ⟨by rw [owV, if_neg (fun e : (σ.2.2.2.2.1 k).1 = false => by rw [e] at c30; exact c30 rfl), if_neg t36_0, if_pos t36_1]; rfl, rfl, rfl⟩
        rcases Classical.em (x = 2) with t36_2 | t36_2
        · refine sw_tableIn (tgt := 74) dX3_ofWalk_36 (by rw [t36_2]; decide) (by rw [t36_2]; decide) (by rw [t36_2]; rfl) (by decide +kernel) ?_
          refine sw_aload_n (pc' := 75) rfl dX3_ofWalk_74 rfl ?_
          refine sw_getf (ci := 3) (k := 4) (pc' := 78) rfl dX3_ofWalk_75 (by decide +kernel) w_126 (hR.wk hk).2.1 rfl ?_
          refine sw_ret (v := some _) ⟨dX3_ofWalk_78, _, rfl, rfl⟩ ?_
          exact ⟨by rw [owV, if_neg (fun e : (σ.2.2.2.2.1 k).1 = false => by rw [e] at c30; exact c30 rfl), if_neg t36_0, if_neg t36_1, if_pos t36_2]; rfl, rfl, rfl⟩
        refine sw_tableOut (tgt := 79) dX3_ofWalk_36 (ts3 t36_0 t36_1 t36_2) (by decide +kernel) ?_
        refine sw_aload_n (pc' := 80) rfl dX3_ofWalk_79 rfl ?_
        refine sw_V (M' := MX2_isStale) (d' := d - 1) (bc' := 0) (bs' := 0) (ci := 3) (as := []) dX3_ofWalk_80 w_284 ok_X2_isStale (m_isStale (hR.wk hk).2 (hR.sh (hR.wk hk).1)) (hR.wk hk).2.1 rfl (by omega) (Nat.le_of_ble_eq_true rfl) (Nat.zero_le _) (Nat.zero_le _) (fun E h' n' _ z => det_x z) (det_k ?_)
        refine sw_S (M' := MX3_oneIf) (d' := d - 1) (bc' := 0) (bs' := 0) (as := [_]) dX3_ofWalk_83 w_277 ok_X3_oneIf (m_oneIf) (by omega) (Nat.le_of_ble_eq_true rfl) (Nat.zero_le _) (Nat.zero_le _) (fun E h' n' _ z => det_x z) (det_k ?_)
        refine sw_ret (v := some _) ⟨dX3_ofWalk_86, _, rfl, rfl⟩ ?_
        exact ⟨by rw [owV, if_neg (fun e : (σ.2.2.2.2.1 k).1 = false => by rw [e] at c30; exact c30 rfl), if_neg t36_0, if_neg t36_1, if_neg t36_2]; rfl, rfl, rfl⟩
      · refine sw_iconst (pc' := 34) (v := (-1)) rfl dX3_ofWalk_33 (by decide +kernel) ?_
        refine sw_ret (v := some _) ⟨dX3_ofWalk_34, _, rfl, rfl⟩ ?_
        exact ⟨by rw [owV, if_pos (bI_0 c30)]; rfl, rfl, rfl⟩
    · exact (hx (Or.inr (Int32.not_le.mp c12))).elim
end
section
/-! 32.digest -/
/-! digest -/
def dgZ (σ : CS) : Int64 := dgW σ 0 6 (dgS σ 0 11 (dgN (fun x => hoV σ (nI x)) 0 6 7780)) * 31 + (bI (snB σ)).toInt64
theorem dg_A {h : AH} {σ : CS} {d n : Nat} {Post : ARes → AH → Nat → Prop} {bc bs : Nat} (hR : RC h σ) (hd : 5 ≤ d) (m : Nat) : ∀ (j : Nat) (v : Int64), j + m = 6 → (SW SR0 MX3_digest d bc bs 30 [(3, .int (nI 6)), (1, .long (dgN (fun x => hoV σ (nI x)) j m v)), (0, .ref 100)] [] h n Post) → SW SR0 MX3_digest d bc bs 6 [(3, .int (nI j)), (1, .long v), (0, .ref 100)] [] h n Post := by
  induction m with
  | zero =>
    intro j v hj k
    have hj6 : j = 6 := by omega
    subst hj6
    refine sw_iload_n (pc' := 7) rfl dX3_digest_6 rfl ?_
    refine sw_iconst (pc' := 8) (v := 5) rfl dX3_digest_7 (by decide +kernel) ?_
    refine sw_icmp_gt (pc' := 11) (tgt := 30) rfl dX3_digest_8 (by decide +kernel) (fun c8 => ?_) (fun c8 => ?_)
    · exact k
    · exact absurd (show (5 : Int32) < nI 6 from by decide +kernel) c8
  | succ m ih =>
    intro j v hj k
    refine sw_iload_n (pc' := 7) rfl dX3_digest_6 rfl ?_
    refine sw_iconst (pc' := 8) (v := 5) rfl dX3_digest_7 (by decide +kernel) ?_
    refine sw_icmp_gt (pc' := 11) (tgt := 30) rfl dX3_digest_8 (by decide +kernel) (fun c8 => ?_) (fun c8 => ?_)
    · exact absurd (show nI 5 < nI j from c8) (fun q => absurd ((nI_ltI (a := 5) (b := j) (by decide +kernel) (by omega)).mp q) (by omega))
    · refine sw_lload_n (pc' := 12) rfl dX3_digest_11 rfl ?_
      refine sw_ldc2 (pc' := 15) rfl dX3_digest_12 w_256 ?_
      refine sw_lmul (pc' := 16) rfl dX3_digest_15 ?_
      refine sw_aload_n (pc' := 17) rfl dX3_digest_16 rfl ?_
      refine sw_iload_n (pc' := 18) rfl dX3_digest_17 rfl ?_
      refine sw_V (M' := MX3_house) (d' := d - 1) (bc' := 0) (bs' := 0) (ci := 4) (as := [_]) dX3_digest_18 w_257 ok_X3_house (m_houseK (x := nI j) hR (by omega) (nin (N := 5) (by decide +kernel) (by omega))) hR.1 rfl (by omega) (Nat.le_of_ble_eq_true rfl) (by omega) (by omega) (fun E h' n' _ z => det_x z) (det_k ?_)
      refine sw_i2l (pc' := 22) rfl dX3_digest_21 ?_
      refine sw_ladd (pc' := 23) rfl dX3_digest_22 ?_
      refine sw_lstore_n (pc' := 24) (lv' := [(1, _), (3, _), (0, _)]) rfl dX3_digest_23 (by decide +kernel) rfl ?_
      refine sw_iinc (pc' := 27) (lv' := [(3, _), (1, _), (0, _)]) (v := nI (j + 1)) rfl dX3_digest_24 rfl (nI_succ j).symm (by decide +kernel) rfl ?_
      refine sw_goto (tgt := 6) dX3_digest_27 (by decide +kernel) ?_
      exact ih (j + 1) _ (by omega) k
theorem dg_P {h : AH} {σ : CS} {d n : Nat} {Post : ARes → AH → Nat → Prop} {bc bs k : Nat} (hR : RC h σ) (hk : k < 11) (hd : 5 ≤ d) (m : Nat) : ∀ (j : Nat) (v : Int64), j + m = σ.2.1 k → (SW SR0 MX3_digest d bc bs 93 [(5, .int (nI (σ.2.1 k))), (4, .ref (102 + 2 * k)), (3, .int (nI k)), (1, .long (dgN (σ.1 k) j m v)), (0, .ref 100)] [] h n Post) → SW SR0 MX3_digest d bc bs 62 [(5, .int (nI j)), (4, .ref (102 + 2 * k)), (3, .int (nI k)), (1, .long v), (0, .ref 100)] [] h n Post := by
  have hc := (hR.sh hk).2.2.1
  induction m with
  | zero =>
    intro j v hj k9
    have hjc : σ.2.1 k = j := by omega
    rw [hjc] at k9
    refine sw_iload (pc' := 64) rfl dX3_digest_62 rfl ?_
    refine sw_aload (pc' := 66) rfl dX3_digest_64 rfl ?_
    refine sw_getf (ci := 2) (k := 2) (pc' := 69) rfl dX3_digest_66 (by decide +kernel) w_84 (hR.sh hk).1 rfl ?_
    refine sw_icmp_ge (pc' := 72) (tgt := 93) rfl dX3_digest_69 (by decide +kernel) (fun c69 => ?_) (fun c69 => ?_)
    · exact k9
    · exact absurd (by rw [hjc]; exact Int32.le_refl _) c69
  | succ m ih =>
    intro j v hj k9
    have e1 := taI_in (f := σ.1 k) (c := σ.2.1 k) (j := j) (by omega) hc
    refine sw_iload (pc' := 64) rfl dX3_digest_62 rfl ?_
    refine sw_aload (pc' := 66) rfl dX3_digest_64 rfl ?_
    refine sw_getf (ci := 2) (k := 2) (pc' := 69) rfl dX3_digest_66 (by decide +kernel) w_84 (hR.sh hk).1 rfl ?_
    refine sw_icmp_ge (pc' := 72) (tgt := 93) rfl dX3_digest_69 (by decide +kernel) (fun c69 => ?_) (fun c69 => ?_)
    · exact absurd c69 (nI_ge (by omega) (by omega))
    · refine sw_lload_n (pc' := 73) rfl dX3_digest_72 rfl ?_
      refine sw_ldc2 (pc' := 76) rfl dX3_digest_73 w_256 ?_
      refine sw_lmul (pc' := 77) rfl dX3_digest_76 ?_
      refine sw_aload (pc' := 79) rfl dX3_digest_77 rfl ?_
      refine sw_iload (pc' := 81) rfl dX3_digest_79 rfl ?_
      refine sw_V (M' := MX1_thingAt) (d' := d - 1) (bc' := 0) (bs' := 0) (ci := 2) (as := [_]) dX3_digest_81 w_230 ok_X1_thingAt (m_thingAt (hR.sh hk)) (hR.sh hk).1 rfl (by omega) (Nat.le_of_ble_eq_true rfl) (by omega) (by omega) (fun E h' n' _ z => det_x z) (det_k ?_)
      refine sw_i2l (pc' := 85) rfl dX3_digest_84 ?_
      refine sw_ladd (pc' := 86) rfl dX3_digest_85 ?_
      refine sw_lstore_n (pc' := 87) (lv' := [(1, _), (5, _), (4, _), (3, _), (0, _)]) rfl dX3_digest_86 (by decide +kernel) rfl ?_
      refine sw_iinc (pc' := 90) (lv' := [(5, _), (1, _), (4, _), (3, _), (0, _)]) (v := nI (j + 1)) rfl dX3_digest_87 rfl (nI_succ j).symm (by decide +kernel) rfl ?_
      refine sw_goto (tgt := 62) dX3_digest_90 (by decide +kernel) ?_
      rw [e1]
      refine sw_loc (lv' := [(5, .int (nI (j + 1))), (4, .ref (102 + 2 * k)), (3, .int (nI k)), (1, .long (v * 31 + (σ.1 k j).toInt64)), (0, .ref 100)]) ?_ (by intro q hq; simp only [List.mem_cons, List.not_mem_nil, or_false] at hq; rcases hq with rfl | rfl | rfl | rfl | rfl <;> simp [nI_0])
      exact ih (j + 1) _ (by omega) k9
theorem dg_S {h : AH} {σ : CS} {d n : Nat} {Post : ARes → AH → Nat → Prop} {bc bs : Nat} (hR : RC h σ) (hd : 5 ≤ d) (m : Nat) : ∀ (k : Nat) (v : Int64), k + m = 11 → (SW SR0 MX3_digest d bc bs 99 [(3, .int (nI 11)), (1, .long (dgS σ k m v)), (0, .ref 100)] [] h n Post) → SW SR0 MX3_digest d bc bs 32 [(3, .int (nI k)), (1, .long v), (0, .ref 100)] [] h n Post := by
  obtain ⟨g, ga, gb⟩ := hR.2.1
  induction m with
  | zero =>
    intro k v hj k9
    have hj6 : k = 11 := by omega
    subst hj6
    refine sw_iload_n (pc' := 33) rfl dX3_digest_32 rfl ?_
    refine sw_bipush (pc' := 35) (v := 11) rfl dX3_digest_33 (by decide +kernel) ?_
    refine sw_icmp_ge (pc' := 38) (tgt := 99) rfl dX3_digest_35 (by decide +kernel) (fun c35 => ?_) (fun c35 => ?_)
    · exact k9
    · exact absurd (Int32.le_refl (nI 11)) c35
  | succ m ih =>
    intro k v hm k9
    have hk : k < 11 := by omega
    refine sw_iload_n (pc' := 33) rfl dX3_digest_32 rfl ?_
    refine sw_bipush (pc' := 35) (v := 11) rfl dX3_digest_33 (by decide +kernel) ?_
    refine sw_icmp_ge (pc' := 38) (tgt := 99) rfl dX3_digest_35 (by decide +kernel) (fun c35 => ?_) (fun c35 => ?_)
    · exact absurd c35 (nI_ge (b := 11) (by omega) (by decide +kernel))
    · refine sw_aload_n (pc' := 39) rfl dX3_digest_38 rfl ?_
      refine sw_getf (ci := 4) (k := 0) (pc' := 42) rfl dX3_digest_39 (by decide +kernel) w_150 hR.1 rfl ?_
      refine sw_iload_n (pc' := 43) rfl dX3_digest_42 rfl ?_
      refine sw_aald (pc' := 44) rfl dX3_digest_43 ga (by decide +kernel) (by decide +kernel) rfl hk (by decide +kernel) (gb k hk) ?_
      refine sw_astore (pc' := 46) (lv' := [(4, _), (3, _), (1, _), (0, _)]) rfl dX3_digest_44 (by decide +kernel) rfl ?_
      refine sw_lload_n (pc' := 47) rfl dX3_digest_46 rfl ?_
      refine sw_ldc2 (pc' := 50) rfl dX3_digest_47 w_256 ?_
      refine sw_lmul (pc' := 51) rfl dX3_digest_50 ?_
      refine sw_aload (pc' := 53) rfl dX3_digest_51 rfl ?_
      refine sw_getf (ci := 2) (k := 2) (pc' := 56) rfl dX3_digest_53 (by decide +kernel) w_84 (hR.sh hk).1 rfl ?_
      refine sw_i2l (pc' := 57) rfl dX3_digest_56 ?_
      refine sw_ladd (pc' := 58) rfl dX3_digest_57 ?_
      refine sw_lstore_n (pc' := 59) (lv' := [(1, _), (4, _), (3, _), (0, _)]) rfl dX3_digest_58 (by decide +kernel) rfl ?_
      refine sw_iconst (pc' := 60) (v := 0) rfl dX3_digest_59 (by decide +kernel) ?_
      refine sw_istore (pc' := 62) (lv' := [(5, _), (1, _), (4, _), (3, _), (0, _)]) rfl dX3_digest_60 (by decide +kernel) rfl ?_
      refine sw_loc (lv' := [(5, .int (nI 0)), (4, .ref (102 + 2 * k)), (3, .int (nI k)), (1, .long (v * 31 + (nI (σ.2.1 k)).toInt64)), (0, .ref 100)]) ?_ (by intro q hq; simp only [List.mem_cons, List.not_mem_nil, or_false] at hq; rcases hq with rfl | rfl | rfl | rfl | rfl <;> simp [nI_0])
      refine dg_P hR hk hd (σ.2.1 k) 0 _ (by omega) ?_
      refine sw_iinc (pc' := 96) (lv' := [(3, _), (5, _), (4, _), (1, _), (0, _)]) (v := nI (k + 1)) rfl dX3_digest_93 rfl (nI_succ k).symm (by decide +kernel) rfl ?_
      refine sw_goto (tgt := 32) dX3_digest_96 (by decide +kernel) ?_
      refine sw_loc (lv' := [(3, .int (nI (k + 1))), (1, .long (dgN (σ.1 k) 0 (σ.2.1 k) (v * 31 + (nI (σ.2.1 k)).toInt64))), (0, .ref 100)]) ?_ (by intro q hq; simp only [List.mem_cons, List.not_mem_nil, or_false] at hq; rcases hq with rfl | rfl | rfl <;> simp [nI_0])
      exact ih (k + 1) _ (by omega) k9
theorem dg_X {h : AH} {σ : CS} {d n : Nat} {Post : ARes → AH → Nat → Prop} {k : Nat} (hR : RC h σ) (hk : k < 6) (hd : 5 ≤ d) (m : Nat) : ∀ (j : Nat) (v : Int64) (bc bs : Nat), j + m = 4 → m ≤ bc → 6 * m ≤ bs → (∀ bc' bs', bc ≤ bc' + m → bs ≤ bs' + 6 * (m) → SW SR0 MX3_digest d bc' bs' 137 [(4, .int (nI 4)), (3, .int (nI k)), (1, .long (dgN (fun x => owV σ k (nI x)) j m v)), (0, .ref 100)] [] h n Post) → SW SR0 MX3_digest d bc bs 110 [(4, .int (nI j)), (3, .int (nI k)), (1, .long v), (0, .ref 100)] [] h n Post := by
  induction m with
  | zero =>
    intro j v bc bs hj b1 b2 k9
    have hj4 : j = 4 := by omega
    subst hj4
    refine sw_iload (pc' := 112) rfl dX3_digest_110 rfl ?_
    refine sw_iconst (pc' := 113) (v := 3) rfl dX3_digest_112 (by decide +kernel) ?_
    refine sw_icmp_gt (pc' := 116) (tgt := 137) rfl dX3_digest_113 (by decide +kernel) (fun c113 => ?_) (fun c113 => ?_)
    · exact k9 bc bs (by omega) (by omega)
    · exact absurd (show (3 : Int32) < nI 4 from by decide +kernel) c113
  | succ m ih =>
    intro j v bc bs hj b1 b2 k9
    refine sw_iload (pc' := 112) rfl dX3_digest_110 rfl ?_
    refine sw_iconst (pc' := 113) (v := 3) rfl dX3_digest_112 (by decide +kernel) ?_
    refine sw_icmp_gt (pc' := 116) (tgt := 137) rfl dX3_digest_113 (by decide +kernel) (fun c113 => ?_) (fun c113 => ?_)
    · exact absurd (show nI 3 < nI j from c113) (fun q => absurd ((nI_ltI (a := 3) (b := j) (by decide +kernel) (by omega)).mp q) (by omega))
    · refine sw_lload_n (pc' := 117) rfl dX3_digest_116 rfl ?_
      refine sw_ldc2 (pc' := 120) rfl dX3_digest_117 w_256 ?_
      refine sw_lmul (pc' := 121) rfl dX3_digest_120 ?_
      refine sw_aload_n (pc' := 122) rfl dX3_digest_121 rfl ?_
      refine sw_iload_n (pc' := 123) rfl dX3_digest_122 rfl ?_
      refine sw_iload (pc' := 125) rfl dX3_digest_123 rfl ?_
      refine sw_V (M' := MX3_ofWalk) (d' := d - 1) (bc' := 1) (bs' := 6) (ci := 4) (as := [_, _]) dX3_digest_125 w_353 ok_X3_ofWalk (m_ofWalkK (x := nI j) hR hk (by decide +kernel) (by decide +kernel) (by omega) (nin (N := 3) (by decide +kernel) (by omega))) hR.1 rfl (by omega) (Nat.le_of_ble_eq_true rfl) (by omega) (by omega) (fun E h' n' _ z => det_x z) (det_k ?_)
      refine sw_i2l (pc' := 129) rfl dX3_digest_128 ?_
      refine sw_ladd (pc' := 130) rfl dX3_digest_129 ?_
      refine sw_lstore_n (pc' := 131) (lv' := [(1, _), (4, _), (3, _), (0, _)]) rfl dX3_digest_130 (by decide +kernel) rfl ?_
      refine sw_iinc (pc' := 134) (lv' := [(4, _), (1, _), (3, _), (0, _)]) (v := nI (j + 1)) rfl dX3_digest_131 rfl (nI_succ j).symm (by decide +kernel) rfl ?_
      refine sw_goto (tgt := 110) dX3_digest_134 (by decide +kernel) ?_
      refine sw_loc (lv' := [(4, .int (nI (j + 1))), (3, .int (nI k)), (1, .long (v * 31 + (owV σ k (nI j)).toInt64)), (0, .ref 100)]) ?_ (by intro q hq; simp only [List.mem_cons, List.not_mem_nil, or_false] at hq; rcases hq with rfl | rfl | rfl | rfl <;> simp [nI_0])
      exact ih (j + 1) _ (bc - 1) (bs - 6) (by omega) (by omega) (by omega) (fun bc' bs' h1 h2 => k9 bc' bs' (by omega) (by omega))
theorem dg_W {h : AH} {σ : CS} {d n : Nat} {Post : ARes → AH → Nat → Prop} (hR : RC h σ) (hd : 5 ≤ d) (m : Nat) : ∀ (k : Nat) (v : Int64) (bc bs : Nat), k + m = 6 → 4 * m ≤ bc → 24 * m ≤ bs → (∀ bc' bs', bc ≤ bc' + 4 * m → bs ≤ bs' + 6 * (4 * m) → SW SR0 MX3_digest d bc' bs' 143 [(3, .int (nI 6)), (1, .long (dgW σ k m v)), (0, .ref 100)] [] h n Post) → SW SR0 MX3_digest d bc bs 101 [(3, .int (nI k)), (1, .long v), (0, .ref 100)] [] h n Post := by
  induction m with
  | zero =>
    intro k v bc bs hj b1 b2 k9
    have hj6 : k = 6 := by omega
    subst hj6
    refine sw_iload_n (pc' := 102) rfl dX3_digest_101 rfl ?_
    refine sw_bipush (pc' := 104) (v := 6) rfl dX3_digest_102 (by decide +kernel) ?_
    refine sw_icmp_ge (pc' := 107) (tgt := 143) rfl dX3_digest_104 (by decide +kernel) (fun c104 => ?_) (fun c104 => ?_)
    · exact k9 bc bs (by omega) (by omega)
    · exact absurd (Int32.le_refl (nI 6)) c104
  | succ m ih =>
    intro k v bc bs hm b1 b2 k9
    have hk : k < 6 := by omega
    refine sw_iload_n (pc' := 102) rfl dX3_digest_101 rfl ?_
    refine sw_bipush (pc' := 104) (v := 6) rfl dX3_digest_102 (by decide +kernel) ?_
    refine sw_icmp_ge (pc' := 107) (tgt := 143) rfl dX3_digest_104 (by decide +kernel) (fun c104 => ?_) (fun c104 => ?_)
    · exact absurd c104 (nI_ge (b := 6) (by omega) (by decide +kernel))
    · refine sw_iconst (pc' := 108) (v := 0) rfl dX3_digest_107 (by decide +kernel) ?_
      refine sw_istore (pc' := 110) (lv' := [(4, _), (3, _), (1, _), (0, _)]) rfl dX3_digest_108 (by decide +kernel) rfl ?_
      refine dg_X hR hk hd 4 0 v bc bs (by omega) (by omega) (by omega) (fun bc' bs' h1 h2 => ?_)
      refine sw_iinc (pc' := 140) (lv' := [(3, _), (4, _), (1, _), (0, _)]) (v := nI (k + 1)) rfl dX3_digest_137 rfl (nI_succ k).symm (by decide +kernel) rfl ?_
      refine sw_goto (tgt := 101) dX3_digest_140 (by decide +kernel) ?_
      refine sw_loc (lv' := [(3, .int (nI (k + 1))), (1, .long (dgN (fun x => owV σ k (nI x)) 0 4 v)), (0, .ref 100)]) ?_ (by intro q hq; simp only [List.mem_cons, List.not_mem_nil, or_false] at hq; rcases hq with rfl | rfl | rfl <;> simp [nI_0])
      exact ih (k + 1) _ bc' bs' (by omega) (by omega) (by omega) (fun b3 b4 h3 h4 => k9 b3 b4 (by omega) (by omega))
theorem m_digest {h : AH} {σ : CS} {d bc bs n : Nat} (hR : RC h σ) (hd : 7 ≤ d) (hb1 : 24 ≤ bc) (hb2 : 144 ≤ bs) : SM SR0 MX3_digest d bc bs [.ref 100] h n (CP h n (.inl (some (.long (dgZ σ))), σ)) := by
  refine sm_of pn_Overwalks rfl (Nat.le_of_ble_eq_true rfl) ?_
  refine sw_ldc2 (pc' := 3) rfl dX3_digest_0 w_255 ?_
  refine sw_lstore_n (pc' := 4) (lv' := [(1, _), (0, _)]) rfl dX3_digest_3 (by decide +kernel) rfl ?_
  refine sw_iconst (pc' := 5) (v := 0) rfl dX3_digest_4 (by decide +kernel) ?_
  refine sw_istore_n (pc' := 6) (lv' := [(3, _), (1, _), (0, _)]) rfl dX3_digest_5 (by decide +kernel) rfl ?_
  refine dg_A hR (by omega) 6 0 _ (by omega) ?_
  refine sw_iconst (pc' := 31) (v := 0) rfl dX3_digest_30 (by decide +kernel) ?_
  refine sw_istore_n (pc' := 32) (lv' := [(3, _), (1, _), (0, _)]) rfl dX3_digest_31 (by decide +kernel) rfl ?_
  refine sw_loc (lv' := [(3, .int (nI 0)), (1, .long (dgN (fun x => hoV σ (nI x)) 0 6 7780)), (0, .ref 100)]) ?_ (by intro q hq; simp only [List.mem_cons, List.not_mem_nil, or_false] at hq; rcases hq with rfl | rfl | rfl <;> simp [nI_0])
  refine dg_S hR (by omega) 11 0 _ (by omega) ?_
  refine sw_iconst (pc' := 100) (v := 0) rfl dX3_digest_99 (by decide +kernel) ?_
  refine sw_istore_n (pc' := 101) (lv' := [(3, _), (1, _), (0, _)]) rfl dX3_digest_100 (by decide +kernel) rfl ?_
  refine sw_loc (lv' := [(3, .int (nI 0)), (1, .long (dgS σ 0 11 (dgN (fun x => hoV σ (nI x)) 0 6 7780))), (0, .ref 100)]) ?_ (by intro q hq; simp only [List.mem_cons, List.not_mem_nil, or_false] at hq; rcases hq with rfl | rfl | rfl <;> simp [nI_0])
  refine dg_W hR (by omega) 6 0 _ bc bs (by omega) (by omega) (by omega) (fun bc' bs' h1 h2 => ?_)
  refine sw_lload_n (pc' := 144) rfl dX3_digest_143 rfl ?_
  refine sw_ldc2 (pc' := 147) rfl dX3_digest_144 w_256 ?_
  refine sw_lmul (pc' := 148) rfl dX3_digest_147 ?_
  refine sw_aload_n (pc' := 149) rfl dX3_digest_148 rfl ?_
  refine sw_V (M' := MX3_isSound) (d' := d - 1) (bc' := 0) (bs' := 0) (ci := 4) (as := []) dX3_digest_149 w_378 ok_X3_isSound (m_isSound hR (by omega)) hR.1 rfl (by omega) (Nat.le_of_ble_eq_true rfl) (by omega) (by omega) (fun E h' n' _ z => cp_x z) (cp_k (fun p pR pF => ?_))
  refine sw_S (M' := MX3_oneIf) (d' := d - 1) (bc' := 0) (bs' := 0) (as := [_]) dX3_digest_152 w_277 ok_X3_oneIf (m_oneIf) (by omega) (Nat.le_of_ble_eq_true rfl) (by omega) (by omega) (fun E h' n' _ z => det_x z) (det_k ?_)
  refine sw_i2l (pc' := 156) rfl dX3_digest_155 ?_
  refine sw_ladd (pc' := 157) rfl dX3_digest_156 ?_
  refine sw_ret (v := some _) ⟨dX3_digest_157, rfl⟩ ?_
  exact ⟨rfl, rfl, pR, pF⟩
end
section
/-! 33.above -/
/-! a method of a class above, found by the receiver -/
section
variable {SR : SRT} {M M' : MI} {d d' bc bs bc' bs' pc idx n : Nat} {lv : List (Nat × Value)} {st as : List Value} {h : AH} {Post Post' : ARes → AH → Nat → Prop}
theorem sw_callU {b ci : Nat} {fs : List Value} {x : MethodName} (hdg : decode M.2.1 pc = .ok (.invokevirtual idx, 3)) (hw1 : Cond.methodLink M.1.cls idx x ∈ GT) (hw6 : Cond.sameMethod x.cls M'.1.cls x.name x.desc ∈ GT) (hyx : M'.1 = ⟨M'.1.cls, x.name, x.desc⟩) (hw2 : Cond.instanceMethod M'.1 ∈ GT) (hw3 : Cond.selects (CN ci) x M'.1 ∈ GT) (hw4 : Cond.initialized M'.1.cls ∈ GT) (hw5 : cwM M' ∈ GT) (hmh : notMH M'.1 = true) (hpar : (parseMethodDescriptor x.desc).map (fun d => d.parameters.length) = some as.length) (hM0 : M'.2.2.2.2 = []) (hd' : d' < d) (hmx : M'.2.2.1 ≤ 81)
    (hM : SM SR M' d' bc' bs' (.ref b :: as) h n Post') (hb : h b = .inr (ci, fs)) (hst : (st.map fun v => v.category).sum ≤ 8) (hb1 : bc' ≤ bc) (hb2 : bs' ≤ bs)
    (kk : ∀ v h' n', n ≤ n' → Post' (.inl v) h' n' → SW SR M d (bc - bc') (bs - bs') (pc + 3) lv (v.toList ++ st) h' n' Post) (kx : ∀ E h' n', n ≤ n' → Post' (.inr E) h' n' → SWX SR M d (bc - bc') (bs - bs') pc lv E h' n' Post) : SW SR M d bc bs pc lv (as.reverse ++ .ref b :: st) h n Post := by
  intro G p l e R s m args below meth c A ad0 n0 Q hc hr he H locs cells slots ls ad hm hl hx hbc hbs
  obtain ⟨hx1, hb9, hr1, hml1, hown1, hts1, hlk1, htb1, hlt1, hin1, hK1, hN1, hSR1, hAO1, hC1, hA1⟩ := id hc
  have hbn : b < n := hl.2.2 (.ref b) (List.mem_append_right _ List.mem_cons_self) b rfl
  have has : ∀ v ∈ Value.ref b :: as, clV n v := fun v hv => (List.mem_cons.mp hv).elim (fun q => by rw [q]; exact hl.2.2 _ (List.mem_append_right _ List.mem_cons_self)) (fun q => hl.2.2 v (List.mem_append_left _ (List.mem_reverse.mpr q)))
  have hl9 : LM ad M.2.2.1 n lv st ls := hl.stk (fun v hv => hl.2.2 v (List.mem_append_right _ (List.mem_cons_of_mem _ hv)))
  have hMet := hM l hlt1 G ad H.size has
  have hcw : cwM M' = Cond.code M'.1 M'.2.1 M'.2.2.1 M'.2.2.2.1 := by unfold cwM; rw [if_pos hM0]
  have hlen9 : (as.map (em ad)).length = as.length := List.length_map ..
  refine run_go hc hr he hm hl9 hx hbc hbs hb1 hb2 (a := ((Value.ref (ad b) :: as.map (em ad))).toArray) ?_ kk kx
  refine vx_runU (Ts := GT) (own := M.1.cls) (C := CN ci) (owner := M'.1.cls) (x := x) (cc := M.2.1) (nL := M.2.2.1) (bytes := M'.2.1) (maxL := M'.2.2.1) (ret := M'.2.2.2.1) (As := as.map (em ad)) ⟨hx1, hb9, hml1, hown1, hts1⟩ hMet
    (va_cwU (ws' := GT) as.length hts1 (fun w hw => ?_) (by rw [← hcw]; rfl) rfl rfl hyx ⟨(notMH_spec hmh).1, (notMH_spec hmh).2, hpar⟩ (rm_ok hr hd' hmx)) ⟨picU_blind, recv_at hc hm hb hbn, fun U hU hW => ⟨rfl, picU_at hc hm hU hW⟩⟩ rfl hlen9 hl.1.1 stk_map (by show 2 * 0 + ((st.map (em ad)).map fun v => v.category).sum ≤ 8; rw [cat_map]; omega) hdg ⟨by omega, by omega⟩
  unfold va_wsU at hw
  simp only [List.cons_append, List.nil_append, List.mem_cons] at hw
  rcases hw with rfl | rfl | rfl | rfl | rfl | hw
  · exact ⟨hw1, good_of_word (GT_good _ hw1)⟩
  · exact ⟨hw6, good_of_word (GT_good _ hw6)⟩
  · exact ⟨hw3, good_of_word (GT_good _ hw3)⟩
  · exact ⟨hw2, good_of_word (GT_good _ hw2)⟩
  · exact ⟨hw4, good_of_word (GT_good _ hw4)⟩
  · exact wsM_GT hw5 w hw
end
end
section
/-! 34.super -/
/-! super.m(..) -/
theorem classAt_ci {D : va_G} {tys : List (ClassId × FieldType)} {s : State} {ci : Nat} (hK : va_K D vwCl tys s) (hci : ci < 7) : ∃ cC, ClassAt s (CN ci) cC := by
  have h := hK.1 ci _ (vwCl_at hci)
  unfold u_Kn at h
  exact ⟨D.1 ci, h.2⟩
section
variable {SR : SRT} {M M' : MI} {d d' bc bs bc' bs' pc idx n : Nat} {lv : List (Nat × Value)} {st as : List Value} {h : AH} {Post Post' : ARes → AH → Nat → Prop}
theorem sw_callSU {b ci : Nat} {fs : List Value} (hdg : decode M.2.1 pc = .ok (.invokespecial idx, 3)) (hw1 : Cond.methodLink M.1.cls idx M'.1 ∈ GT) (hw6 : Cond.sameMethod M'.1.cls M'.1.cls M'.1.name M'.1.desc ∈ GT) (hno : M'.1.name ≠ "<init>") (hci : ci < 7) (hw2 : Cond.instanceMethod M'.1 ∈ GT) (hw3 : Cond.superclass M.1.cls M'.1.cls ∈ GT) (hw4 : Cond.initialized M'.1.cls ∈ GT) (hw5 : cwM M' ∈ GT) (hpar : (parseMethodDescriptor M'.1.desc).map (fun d => d.parameters.length) = some as.length) (hM0 : M'.2.2.2.2 = []) (hd' : d' < d) (hmx : M'.2.2.1 ≤ 81)
    (hM : SM SR M' d' bc' bs' (.ref b :: as) h n Post') (hb : h b = .inr (ci, fs)) (hst : (st.map fun v => v.category).sum ≤ 8) (hb1 : bc' ≤ bc) (hb2 : bs' ≤ bs)
    (kk : ∀ v h' n', n ≤ n' → Post' (.inl v) h' n' → SW SR M d (bc - bc') (bs - bs') (pc + 3) lv (v.toList ++ st) h' n' Post) (kx : ∀ E h' n', n ≤ n' → Post' (.inr E) h' n' → SWX SR M d (bc - bc') (bs - bs') pc lv E h' n' Post) : SW SR M d bc bs pc lv (as.reverse ++ .ref b :: st) h n Post := by
  intro G p l e R s m args below meth c A ad0 n0 Q hc hr he H locs cells slots ls ad hm hl hx hbc hbs
  obtain ⟨hx1, hb9, hr1, hml1, hown1, hts1, hlk1, htb1, hlt1, hin1, hK1, hN1, hSR1, hAO1, hC1, hA1⟩ := id hc
  have hbn : b < n := hl.2.2 (.ref b) (List.mem_append_right _ List.mem_cons_self) b rfl
  have has : ∀ v ∈ Value.ref b :: as, clV n v := fun v hv => (List.mem_cons.mp hv).elim (fun q => by rw [q]; exact hl.2.2 _ (List.mem_append_right _ List.mem_cons_self)) (fun q => hl.2.2 v (List.mem_append_left _ (List.mem_reverse.mpr q)))
  have hl9 : LM ad M.2.2.1 n lv st ls := hl.stk (fun v hv => hl.2.2 v (List.mem_append_right _ (List.mem_cons_of_mem _ hv)))
  have hMet := hM l hlt1 G ad H.size has
  have hcw : cwM M' = Cond.code M'.1 M'.2.1 M'.2.2.1 M'.2.2.2.1 := by unfold cwM; rw [if_pos hM0]
  have hlen9 : (as.map (em ad)).length = as.length := List.length_map ..
  refine run_go hc hr he hm hl9 hx hbc hbs hb1 hb2 (a := ((Value.ref (ad b) :: as.map (em ad))).toArray) ?_ kk kx
  obtain ⟨cC, hat⟩ := classAt_ci hK1 hci
  refine vx_runSU (Ts := GT) (own := M.1.cls) (C := CN ci) hat (cc := M.2.1) (nL := M.2.2.1) (bytes := M'.2.1) (maxL := M'.2.2.1) (ret := M'.2.2.2.1) (As := as.map (em ad)) ⟨hx1, hb9, hml1, hown1, hts1⟩ hMet
    (va_cwSU (ws' := GT) as.length hts1 (fun w hw => ?_) (by rw [← hcw]; rfl) rfl rfl ⟨hno, hpar⟩ (rm_ok hr hd' hmx)) ⟨picU_blind, recv_at hc hm hb hbn, fun U hU hW => ⟨rfl, picU_at hc hm hU hW⟩⟩ rfl hlen9 hl.1.1 stk_map (by show 2 * 0 + ((st.map (em ad)).map fun v => v.category).sum ≤ 8; rw [cat_map]; omega) hdg ⟨by omega, by omega⟩
  unfold va_wsSU at hw
  simp only [List.cons_append, List.nil_append, List.mem_cons] at hw
  rcases hw with rfl | rfl | rfl | rfl | rfl | hw
  · exact ⟨hw1, good_of_word (GT_good _ hw1)⟩
  · exact ⟨hw6, good_of_word (GT_good _ hw6)⟩
  · exact ⟨hw3, good_of_word (GT_good _ hw3)⟩
  · exact ⟨hw2, good_of_word (GT_good _ hw2)⟩
  · exact ⟨hw4, good_of_word (GT_good _ hw4)⟩
  · exact wsM_GT hw5 w hw
end
end
section
/-! 35.more -/
/-! more rules: text constants, ifnonnull, clone and arraycopy of bytes -/
section
variable {SR : SRT} {M : MI} {d bc bs pc pc' tgt n : Nat} {lv : List (Nat × Value)} {st : List Value} {h : AH} {Post : ARes → AH → Nat → Prop}
theorem sw_ldcS {idx i : Nat} {tx : String} (hp : pc + 2 = pc') (hdg : decode M.2.1 pc = .ok (.ldc idx, 2)) (hs : (M.1.cls, idx, tx, i) ∈ SR) (hi : i < nC) (k : SW SR M d bc bs pc' lv (.ref i :: st) h n Post) : SW SR M d bc bs pc lv st h n Post := by
  subst hp
  intro G p l e R s m args below meth c A ad0 n0 Q hc hr he H locs cells slots ls ad hm hl hx hbc hbs
  have e1 : ad i = G.2.2.1 i := (hm.2.2.2.2.2 i hi).2.1
  have hk := k G p l e R s m args below meth c A ad0 n0 Q hc hr he H locs cells slots ls ad hm (hl.stk (clc hl.2.2 (fun j hj => by cases hj; exact Nat.lt_of_lt_of_le hi hm.lt))) hx hbc hbs
  obtain ⟨hx1, hb1, hr1, hml1, hown1, hts1, hlk1, htb1, hlt1, hin1, hK1, hN1, hSR1, hAO1, hC1, hA1⟩ := id hc
  have hz : vk_R M.1.cls idx tx (G.2.2.1 i) s := hSR1 (M.1.cls, idx, tx, i) hs
  rw [List.map_cons] at hk
  have hk' : W p l e R s m args below meth c H locs cells slots Q (F0 m (pc + 2) ls (.ref (G.2.2.1 i) :: st.map (em ad))) := e1 ▸ hk
  exact va_ldcS hx1 hb1 hown1 hz hdg hk'
end
end
section
/-! 36.model -/
/-! the model's picture -/
def shF (σ : CS) (j : Nat) : Int32 := if j < 6 then (if (σ.2.2.2.2.1 j).1 then nI (wO σ j) else -1) else 0
theorem shF_m {σ : CS} {k : Nat} (hk : k < 6) (q : (σ.2.2.2.2.1 k).1 = true) : shF σ k = nI (wO σ k) := by unfold shF; rw [if_pos hk, if_pos q]
theorem shF_n {σ : CS} {k : Nat} (hk : k < 6) (q : (σ.2.2.2.2.1 k).1 = false) : shF σ k = -1 := by unfold shF; rw [if_pos hk, q]; rfl
/-- the model at 135 holds σ; ρ: its rows, τ: its turned; th: thrown -/
def MM (h : AH) (ρ : Nat → Nat → Int32) (τ : Nat → Int32) (σ : CS) (th : Int32) : Prop :=
  h 135 = .inr (6, [.int th, .int σ.2.2.2.2.2.2, .int σ.2.2.2.2.2.1, .ref 136, .ref 148, .ref 149, .ref 150, .ref 151, .ref 152, .ref 153, .ref 154, .ref 155, .ref 156, .ref 157]) ∧
  (∃ g, h 136 = .inl (5, 11, .inr (.inr (.inr (.inr g)))) ∧ ∀ k, k < 11 → g k = some (137 + k)) ∧
  (∀ k, k < 11 → h (137 + k) = .inl (0, 12, .inl (ρ k))) ∧
  h 148 = .inl (0, 11, .inl (fun j => nI (σ.2.1 j))) ∧ h 149 = .inl (0, 11, .inl σ.2.2.1) ∧ h 150 = .inl (0, 6, .inl (shF σ)) ∧
  h 151 = .inl (0, 6, .inl (fun j => (σ.2.2.2.2.1 j).2.2.1)) ∧ h 152 = .inl (0, 6, .inl (fun j => (σ.2.2.2.2.1 j).2.2.2.1)) ∧
  h 153 = .inl (0, 6, .inl (fun j => (σ.2.2.2.2.1 j).2.2.2.2.2.1)) ∧ h 154 = .inl (0, 6, .inl (wAh σ)) ∧
  h 155 = .inl (1, 6, .inl (fun j => bI (σ.2.2.2.2.1 j).2.2.2.2.2.2.2)) ∧ h 156 = .inl (0, 11, .inl σ.2.2.2.1) ∧ h 157 = .inl (0, 6, .inl τ)
/-- its rows say what the class's do -/
def AG (ρ : Nat → Nat → Int32) (τ : Nat → Int32) (σ : CS) : Prop :=
  (∀ k, k < 11 → ∀ j, j < σ.2.1 k → ρ k j = σ.1 k j) ∧ ∀ k, k < 6 → (σ.2.2.2.2.1 k).2.2.2.2.2.2.2 = true → τ k = (σ.2.2.2.2.1 k).2.2.2.2.2.2.1
def RMo (h : AH) (σ : CS) (th : Int32) : Prop := ∃ ρ τ, MM h ρ τ σ th ∧ AG ρ τ σ
/-- nothing outside the model is otherwise -/
def FrM (h h' : AH) (n : Nat) : Prop := ∀ i, i < 135 ∨ 158 ≤ i → i < n → h' i = h i
theorem FrM.rf {h : AH} {n : Nat} : FrM h h n := fun _ _ _ => rfl
theorem FrM.tr {h h1 h2 : AH} {n m : Nat} (a : FrM h h1 n) (c : FrM h1 h2 m) (hm : n ≤ m) : FrM h h2 n := fun i p q => (c i p (Nat.lt_of_lt_of_le q hm)).trans (a i p q)
section
variable {h h' : AH} {ρ : Nat → Nat → Int32} {τ : Nat → Int32} {σ : CS} {th : Int32} {k : Nat}
theorem MM.ob (hM : MM h ρ τ σ th) : h 135 = .inr (6, [.int th, .int σ.2.2.2.2.2.2, .int σ.2.2.2.2.2.1, .ref 136, .ref 148, .ref 149, .ref 150, .ref 151, .ref 152, .ref 153, .ref 154, .ref 155, .ref 156, .ref 157]) := hM.1
theorem MM.out (hM : MM h ρ τ σ th) : ∃ g, h 136 = .inl (5, 11, .inr (.inr (.inr (.inr g)))) ∧ ∀ k, k < 11 → g k = some (137 + k) := hM.2.1
theorem MM.row (h : MM h' ρ τ σ th) (hk : k < 11) : h' (137 + k) = .inl (0, 12, .inl (ρ k)) := h.2.2.1 k hk
theorem MM.sz (hM : MM h ρ τ σ th) : h 148 = .inl (0, 11, .inl (fun j => nI (σ.2.1 j))) := hM.2.2.2.1
theorem MM.sf (hM : MM h ρ τ σ th) : h 149 = .inl (0, 11, .inl σ.2.2.1) := hM.2.2.2.2.1
theorem MM.sh (hM : MM h ρ τ σ th) : h 150 = .inl (0, 6, .inl (shF σ)) := hM.2.2.2.2.2.1
theorem MM.hw (hM : MM h ρ τ σ th) : h 151 = .inl (0, 6, .inl (fun j => (σ.2.2.2.2.1 j).2.2.1)) := hM.2.2.2.2.2.2.1
theorem MM.gi (hM : MM h ρ τ σ th) : h 152 = .inl (0, 6, .inl (fun j => (σ.2.2.2.2.1 j).2.2.2.1)) := hM.2.2.2.2.2.2.2.1
theorem MM.st (hM : MM h ρ τ σ th) : h 153 = .inl (0, 6, .inl (fun j => (σ.2.2.2.2.1 j).2.2.2.2.2.1)) := hM.2.2.2.2.2.2.2.2.1
theorem MM.pl (hM : MM h ρ τ σ th) : h 154 = .inl (0, 6, .inl (wAh σ)) := hM.2.2.2.2.2.2.2.2.2.1
theorem MM.ct (hM : MM h ρ τ σ th) : h 155 = .inl (1, 6, .inl (fun j => bI (σ.2.2.2.2.1 j).2.2.2.2.2.2.2)) := hM.2.2.2.2.2.2.2.2.2.2.1
theorem MM.tu (hM : MM h ρ τ σ th) : h 156 = .inl (0, 11, .inl σ.2.2.2.1) := hM.2.2.2.2.2.2.2.2.2.2.2.1
theorem MM.td (hM : MM h ρ τ σ th) : h 157 = .inl (0, 6, .inl τ) := hM.2.2.2.2.2.2.2.2.2.2.2.2
/-- the model's places, whoever writes elsewhere -/
theorem MM.fr (hM : MM h ρ τ σ th) (hF : ∀ i, 135 ≤ i → i < 158 → h' i = h i) : MM h' ρ τ σ th := by
  obtain ⟨g, h1, h2⟩ := hM.out
  exact ⟨(hF 135 (by omega) (by omega)).trans hM.ob, ⟨g, (hF 136 (by omega) (by omega)).trans h1, h2⟩, fun k hk => (hF (137 + k) (by omega) (by omega)).trans (hM.row hk), (hF 148 (by omega) (by omega)).trans hM.sz, (hF 149 (by omega) (by omega)).trans hM.sf, (hF 150 (by omega) (by omega)).trans hM.sh, (hF 151 (by omega) (by omega)).trans hM.hw, (hF 152 (by omega) (by omega)).trans hM.gi, (hF 153 (by omega) (by omega)).trans hM.st, (hF 154 (by omega) (by omega)).trans hM.pl, (hF 155 (by omega) (by omega)).trans hM.ct, (hF 156 (by omega) (by omega)).trans hM.tu, (hF 157 (by omega) (by omega)).trans hM.td⟩
theorem RMo.fr (hM : RMo h σ th) (hF : ∀ i, 135 ≤ i → i < 158 → h' i = h i) : RMo h' σ th := by
  obtain ⟨ρ, τ, h1, h2⟩ := hM
  exact ⟨ρ, τ, h1.fr hF, h2⟩
theorem up_ap {α β : Type} {F : Nat → α} {φ : α → β} {k : Nat} {v : α} : up (fun j => φ (F j)) k (φ v) = fun j => φ (up F k v j) := by
  funext j
  unfold up
  split <;> rfl
/-- the object alone is otherwise -/
theorem MM.obU (hM : MM h ρ τ σ th) {τ' : CS} {t : Int32} (e : h' 135 = .inr (6, [.int t, .int τ'.2.2.2.2.2.2, .int τ'.2.2.2.2.2.1, .ref 136, .ref 148, .ref 149, .ref 150, .ref 151, .ref 152, .ref 153, .ref 154, .ref 155, .ref 156, .ref 157])) (hF : ∀ i, i ≠ 135 → h' i = h i) (e1 : τ'.2.1 = σ.2.1) (e2 : τ'.2.2.1 = σ.2.2.1) (e3 : τ'.2.2.2.1 = σ.2.2.2.1) (e4 : τ'.2.2.2.2.1 = σ.2.2.2.2.1) : MM h' ρ τ τ' t := by
  obtain ⟨g, h1, h2⟩ := hM.out
  have e5 : shF τ' = shF σ := by funext j; unfold shF wO; rw [e4]
  have e6 : wAh τ' = wAh σ := by funext j; unfold wAh; rw [e4]
  refine ⟨e, ⟨g, (hF 136 (by omega)).trans h1, h2⟩, fun k hk => (hF (137 + k) (by omega)).trans (hM.row hk), ?_⟩
  rw [e1, e2, e3, e4, e5, e6]
  exact ⟨(hF 148 (by omega)).trans hM.sz, (hF 149 (by omega)).trans hM.sf, (hF 150 (by omega)).trans hM.sh, (hF 151 (by omega)).trans hM.hw, (hF 152 (by omega)).trans hM.gi, (hF 153 (by omega)).trans hM.st, (hF 154 (by omega)).trans hM.pl, (hF 155 (by omega)).trans hM.ct, (hF 156 (by omega)).trans hM.tu, (hF 157 (by omega)).trans hM.td⟩
/-- a SHELF is otherwise -/
theorem MM.shU (hM : MM h ρ τ σ th) (hk : k < 11) {r f : Nat → Int32} {c : Nat} {s t : Int32} (e0 : h' (137 + k) = .inl (0, 12, .inl r)) (e1 : h' 148 = .inl (0, 11, .inl (up (fun j => nI (σ.2.1 j)) k (nI c)))) (e2 : h' 149 = .inl (0, 11, .inl (up σ.2.2.1 k s))) (e3 : h' 156 = .inl (0, 11, .inl (up σ.2.2.2.1 k t)))
    (hF : ∀ i, i ≠ 137 + k → i ≠ 148 → i ≠ 149 → i ≠ 156 → h' i = h i) : MM h' (up ρ k r) τ (sU σ k f c s t) th := by
  obtain ⟨g, h1, h2⟩ := hM.out
  refine ⟨(hF 135 (by omega) (by omega) (by omega) (by omega)).trans hM.ob, ⟨g, (hF 136 (by omega) (by omega) (by omega) (by omega)).trans h1, h2⟩, fun j hj => ?_, e1.trans (by rw [up_ap]; rfl), e2, (hF 150 (by omega) (by omega) (by omega) (by omega)).trans hM.sh, (hF 151 (by omega) (by omega) (by omega) (by omega)).trans hM.hw, (hF 152 (by omega) (by omega) (by omega) (by omega)).trans hM.gi, (hF 153 (by omega) (by omega) (by omega) (by omega)).trans hM.st, (hF 154 (by omega) (by omega) (by omega) (by omega)).trans hM.pl, (hF 155 (by omega) (by omega) (by omega) (by omega)).trans hM.ct, e3, (hF 157 (by omega) (by omega) (by omega) (by omega)).trans hM.td⟩
  by_cases e : j = k
  · subst e
    rw [up_s]
    exact e0
  · rw [up_n e]
    exact (hF (137 + j) (by omega) (by omega) (by omega) (by omega)).trans (hM.row hj)
theorem AG.shU (hA : AG ρ τ σ) {r f : Nat → Int32} {c : Nat} {s t : Int32} (hr : ∀ j, j < c → r j = f j) : AG (up ρ k r) τ (sU σ k f c s t) := by
  refine ⟨fun j hj i hi => ?_, hA.2⟩
  by_cases e : j = k
  · subst e
    have hi' : i < up σ.2.1 j c j := hi
    rw [up_s] at hi'
    show up ρ j r j i = up σ.1 j f j i
    rw [up_s, up_s]
    exact hr i hi'
  · have hi' : i < up σ.2.1 k c j := hi
    rw [up_n e] at hi'
    show up ρ k r j i = up σ.1 k f j i
    rw [up_n e, up_n e]
    exact hA.1 j hj i hi'
/-- a WALK is otherwise -/
theorem MM.wkU (hM : MM h ρ τ σ th) (hk : k < 6) {q : WT} {t : Int32} (e0 : h' 150 = .inl (0, 6, .inl (up (shF σ) k (if q.1 then nI q.2.1 else -1)))) (e1 : h' 151 = .inl (0, 6, .inl (up (fun j => (σ.2.2.2.2.1 j).2.2.1) k q.2.2.1))) (e2 : h' 152 = .inl (0, 6, .inl (up (fun j => (σ.2.2.2.2.1 j).2.2.2.1) k q.2.2.2.1)))
    (e3 : h' 153 = .inl (0, 6, .inl (up (fun j => (σ.2.2.2.2.1 j).2.2.2.2.2.1) k q.2.2.2.2.2.1))) (e4 : h' 154 = .inl (0, 6, .inl (up (wAh σ) k (q.2.2.2.1 - q.2.2.2.2.1)))) (e5 : h' 155 = .inl (1, 6, .inl (up (fun j => bI (σ.2.2.2.2.1 j).2.2.2.2.2.2.2) k (bI q.2.2.2.2.2.2.2)))) (e6 : h' 157 = .inl (0, 6, .inl (up τ k t)))
    (hF : ∀ i, i < 150 ∨ 158 ≤ i ∨ i = 156 → h' i = h i) : MM h' ρ (up τ k t) (wU σ k q) th := by
  obtain ⟨g, h1, h2⟩ := hM.out
  have a0 : up (shF σ) k (if q.1 then nI q.2.1 else -1) = shF (wU σ k q) := by
    funext j
    unfold up shF
    by_cases e : j = k
    · rw [if_pos e, e, if_pos hk]
      show _ = if (up σ.2.2.2.2.1 k q k).1 = true then nI (up σ.2.2.2.2.1 k q k).2.1 else -1
      rw [up_s]
    · rw [if_neg e]
      show _ = if j < 6 then if (up σ.2.2.2.2.1 k q j).1 = true then nI (up σ.2.2.2.2.1 k q j).2.1 else -1 else 0
      rw [up_n e]
      rfl
  have a4 : up (wAh σ) k (q.2.2.2.1 - q.2.2.2.2.1) = wAh (wU σ k q) := by
    funext j
    unfold wAh
    show up _ k _ j = (up σ.2.2.2.2.1 k q j).2.2.2.1 - (up σ.2.2.2.2.1 k q j).2.2.2.2.1
    unfold up
    by_cases e : j = k
    · rw [if_pos e, if_pos e]
    · rw [if_neg e, if_neg e]
  rw [a0] at e0
  rw [a4] at e4
  exact ⟨(hF 135 (by omega)).trans hM.ob, ⟨g, (hF 136 (by omega)).trans h1, h2⟩, fun j hj => (hF (137 + j) (by omega)).trans (hM.row hj), (hF 148 (by omega)).trans hM.sz, (hF 149 (by omega)).trans hM.sf, e0, e1.trans (by rw [up_ap (φ := fun q : WT => q.2.2.1) (v := q)]; rfl), e2.trans (by rw [up_ap (φ := fun q : WT => q.2.2.2.1) (v := q)]; rfl), e3.trans (by rw [up_ap (φ := fun q : WT => q.2.2.2.2.2.1) (v := q)]; rfl), e4, e5.trans (by rw [up_ap (φ := fun q : WT => bI q.2.2.2.2.2.2.2) (v := q)]; rfl), (hF 156 (by omega)).trans hM.tu, e6⟩
theorem AG.wkU (hA : AG ρ τ σ) {q : WT} {t : Int32} (ht : q.2.2.2.2.2.2.2 = true → t = q.2.2.2.2.2.2.1) : AG ρ (up τ k t) (wU σ k q) := by
  refine ⟨hA.1, fun j hj => ?_⟩
  by_cases e : j = k
  · subst e
    show (up σ.2.2.2.2.1 j q j).2.2.2.2.2.2.2 = true → up τ j t j = (up σ.2.2.2.2.1 j q j).2.2.2.2.2.2.1
    rw [up_s, up_s]
    exact ht
  · show (up σ.2.2.2.2.1 k q j).2.2.2.2.2.2.2 = true → up τ k t j = (up σ.2.2.2.2.1 k q j).2.2.2.2.2.2.1
    rw [up_n e, up_n e]
    exact hA.2 j hj
end
/-- an end: what it answers, what the model holds then -/
def RP (h : AH) (n : Nat) (r : Option Value) (σ : CS) (th : Int32) : ARes → AH → Nat → Prop := fun r' h' n' => r' = .inl r ∧ n' = n ∧ RMo h' σ th ∧ FrM h h' n
theorem rp_k {A : Nat → AH → Option Value → Prop} {h : AH} {σ : CS} {th : Int32} {n n0 : Nat} {r : Option Value} (k : ∀ h' ρ τ, MM h' ρ τ σ th → AG ρ τ σ → FrM h h' n → A n h' r) : ∀ (v : Option Value) (h' : AH) (n' : Nat), n0 ≤ n' → RP h n r σ th (.inl v) h' n' → A n' h' v := by
  rintro v h' n' - ⟨e, rfl, ⟨ρ, τ, g1, g2⟩, g3⟩
  cases e
  exact k h' ρ τ g1 g2 g3
theorem rp_x {A : Prop} {h : AH} {σ : CS} {th : Int32} {n : Nat} {r : Option Value} {E : String} {h' : AH} {n' : Nat} (z : RP h n r σ th (.inr E) h' n') : A := by cases z.1
theorem FrM.of1 {h h' : AH} {n : Nat} (hF : ∀ i, i < 135 ∨ 158 ≤ i → h' i = h i) : FrM h h' n := fun i q _ => hF i q
/-! leaves -/
def inB (x a b : Int32) : Bool := decide (a ≤ x ∧ x ≤ b)
theorem inB_t {x a b : Int32} (h1 : a ≤ x) (h2 : x ≤ b) : inB x a b = true := decide_eq_true ⟨h1, h2⟩
theorem inB_f1 {x a b : Int32} (h : x < a) : inB x a b = false := decide_eq_false (fun q => Int32.not_le.mpr h q.1)
theorem inB_f2 {x a b : Int32} (h : b < x) : inB x a b = false := decide_eq_false (fun q => Int32.not_le.mpr h q.2)
theorem inB_k {k N : Nat} (h : k ≤ N) (hN : N < 2 ^ 31) : inB (nI k) 0 (nI N) = true := inB_t (nI_pos' (by omega)) ((nI_leI (by omega) hN).mpr h)
def b3 (a b c : Bool) : Int32 := if a then 1 else if b then 2 else if c then 3 else 0
theorem q_isIn {h : AH} {d bc bs n : Nat} {x a b : Int32}  : SM SR0 MX5_isIn d bc bs [.int x, .int a, .int b] h n (Det (rI (bI (inB x a b))) h n) := by
  refine sm_of pn_OverwalksModel rfl (Nat.le_of_ble_eq_true rfl) ?_
  refine sw_iload_n (pc' := 1) rfl dX5_isIn_0 rfl ?_
  refine sw_iload_n (pc' := 2) rfl dX5_isIn_1 rfl ?_
  refine sw_icmp_lt (pc' := 5) (tgt := 14) rfl dX5_isIn_2 (by decide +kernel) (fun c2 => ?_) (fun c2 => ?_)
  · refine sw_iconst (pc' := 15) (v := 0) rfl dX5_isIn_14 (by decide +kernel) ?_
    refine sw_ret (v := some _) ⟨dX5_isIn_15, _, rfl, rfl⟩ ?_
    exact ⟨by rw [inB_f1 c2]; rfl, rfl, rfl⟩
  · refine sw_iload_n (pc' := 6) rfl dX5_isIn_5 rfl ?_
    refine sw_iload_n (pc' := 7) rfl dX5_isIn_6 rfl ?_
    refine sw_icmp_gt (pc' := 10) (tgt := 14) rfl dX5_isIn_7 (by decide +kernel) (fun c7 => ?_) (fun c7 => ?_)
    · refine sw_iconst (pc' := 15) (v := 0) rfl dX5_isIn_14 (by decide +kernel) ?_
      refine sw_ret (v := some _) ⟨dX5_isIn_15, _, rfl, rfl⟩ ?_
      exact ⟨by rw [inB_f2 c7]; rfl, rfl, rfl⟩
    · refine sw_iconst (pc' := 11) (v := 1) rfl dX5_isIn_10 (by decide +kernel) ?_
      refine sw_goto (tgt := 15) dX5_isIn_11 (by decide +kernel) ?_
      refine sw_ret (v := some _) ⟨dX5_isIn_15, _, rfl, rfl⟩ ?_
      exact ⟨by rw [inB_t (Int32.not_lt.mp c2) (Int32.not_lt.mp c7)]; rfl, rfl, rfl⟩
theorem q_one {h : AH} {d bc bs n : Nat} {q : Bool}  : SM SR0 MX5_one d bc bs [.int (bI q)] h n (Det (rI (bI q)) h n) := by
  refine sm_of pn_OverwalksModel rfl (Nat.le_of_ble_eq_true rfl) ?_
  refine sw_iload_n (pc' := 1) rfl dX5_one_0 rfl ?_
  refine sw_if_eq (pc' := 4) (tgt := 8) rfl dX5_one_1 (by decide +kernel) (fun c1 => ?_) (fun c1 => ?_)
  · refine sw_iconst (pc' := 9) (v := 0) rfl dX5_one_8 (by decide +kernel) ?_
    refine sw_ret (v := some _) ⟨dX5_one_9, _, rfl, rfl⟩ ?_
    exact ⟨by rw [bI_0 c1]; rfl, rfl, rfl⟩
  · refine sw_iconst (pc' := 5) (v := 1) rfl dX5_one_4 (by decide +kernel) ?_
    refine sw_goto (tgt := 9) dX5_one_5 (by decide +kernel) ?_
    refine sw_ret (v := some _) ⟨dX5_one_9, _, rfl, rfl⟩ ?_
    exact ⟨by rw [bI_1 c1]; rfl, rfl, rfl⟩
theorem q_isNone {h : AH} {d bc bs n : Nat} {x : Int32} (hd : 1 ≤ d) : SM SR0 MX5_isNone d bc bs [.int x] h n (Det (rI (bI (!inB x 0 10))) h n) := by
  refine sm_of pn_OverwalksModel rfl (Nat.le_of_ble_eq_true rfl) ?_
  refine sw_iload_n (pc' := 1) rfl dX5_isNone_0 rfl ?_
  refine sw_iconst (pc' := 2) (v := 0) rfl dX5_isNone_1 (by decide +kernel) ?_
  refine sw_bipush (pc' := 4) (v := 10) rfl dX5_isNone_2 (by decide +kernel) ?_
  refine sw_S (M' := MX5_isIn) (d' := d - 1) (bc' := 0) (bs' := 0) (as := [_, _, _]) dX5_isNone_4 w_1168 ok_X5_isIn (q_isIn) (by omega) (Nat.le_of_ble_eq_true rfl) (Nat.zero_le _) (Nat.zero_le _) (fun E h' n' _ z => det_x z) (det_k ?_)
  refine sw_if_ne (pc' := 10) (tgt := 14) rfl dX5_isNone_7 (by decide +kernel) (fun c7 => ?_) (fun c7 => ?_)
  · refine sw_iconst (pc' := 15) (v := 0) rfl dX5_isNone_14 (by decide +kernel) ?_
    refine sw_ret (v := some _) ⟨dX5_isNone_15, _, rfl, rfl⟩ ?_
    exact ⟨by rw [bI_1 c7]; rfl, rfl, rfl⟩
  · refine sw_iconst (pc' := 11) (v := 1) rfl dX5_isNone_10 (by decide +kernel) ?_
    refine sw_goto (tgt := 15) dX5_isNone_11 (by decide +kernel) ?_
    refine sw_ret (v := some _) ⟨dX5_isNone_15, _, rfl, rfl⟩ ?_
    exact ⟨by rw [bI_0 c7]; rfl, rfl, rfl⟩
theorem q_isNoThing {h : AH} {d bc bs n : Nat} {x : Int32} (hd : 1 ≤ d) : SM SR0 MX5_isNoThing d bc bs [.int x] h n (Det (rI (bI (!inB x 0 100))) h n) := by
  refine sm_of pn_OverwalksModel rfl (Nat.le_of_ble_eq_true rfl) ?_
  refine sw_iload_n (pc' := 1) rfl dX5_isNoThing_0 rfl ?_
  refine sw_iconst (pc' := 2) (v := 0) rfl dX5_isNoThing_1 (by decide +kernel) ?_
  refine sw_bipush (pc' := 4) (v := 100) rfl dX5_isNoThing_2 (by decide +kernel) ?_
  refine sw_S (M' := MX5_isIn) (d' := d - 1) (bc' := 0) (bs' := 0) (as := [_, _, _]) dX5_isNoThing_4 w_1168 ok_X5_isIn (q_isIn) (by omega) (Nat.le_of_ble_eq_true rfl) (Nat.zero_le _) (Nat.zero_le _) (fun E h' n' _ z => det_x z) (det_k ?_)
  refine sw_if_ne (pc' := 10) (tgt := 14) rfl dX5_isNoThing_7 (by decide +kernel) (fun c7 => ?_) (fun c7 => ?_)
  · refine sw_iconst (pc' := 15) (v := 0) rfl dX5_isNoThing_14 (by decide +kernel) ?_
    refine sw_ret (v := some _) ⟨dX5_isNoThing_15, _, rfl, rfl⟩ ?_
    exact ⟨by rw [bI_1 c7]; rfl, rfl, rfl⟩
  · refine sw_iconst (pc' := 11) (v := 1) rfl dX5_isNoThing_10 (by decide +kernel) ?_
    refine sw_goto (tgt := 15) dX5_isNoThing_11 (by decide +kernel) ?_
    refine sw_ret (v := some _) ⟨dX5_isNoThing_15, _, rfl, rfl⟩ ?_
    exact ⟨by rw [bI_0 c7]; rfl, rfl, rfl⟩
theorem q_isNoWalk {h : AH} {d bc bs n : Nat} {x : Int32} (hd : 1 ≤ d) : SM SR0 MX5_isNoWalk d bc bs [.int x] h n (Det (rI (bI (!inB x 0 5))) h n) := by
  refine sm_of pn_OverwalksModel rfl (Nat.le_of_ble_eq_true rfl) ?_
  refine sw_iload_n (pc' := 1) rfl dX5_isNoWalk_0 rfl ?_
  refine sw_iconst (pc' := 2) (v := 0) rfl dX5_isNoWalk_1 (by decide +kernel) ?_
  refine sw_iconst (pc' := 3) (v := 5) rfl dX5_isNoWalk_2 (by decide +kernel) ?_
  refine sw_S (M' := MX5_isIn) (d' := d - 1) (bc' := 0) (bs' := 0) (as := [_, _, _]) dX5_isNoWalk_3 w_1168 ok_X5_isIn (q_isIn) (by omega) (Nat.le_of_ble_eq_true rfl) (Nat.zero_le _) (Nat.zero_le _) (fun E h' n' _ z => det_x z) (det_k ?_)
  refine sw_if_ne (pc' := 9) (tgt := 13) rfl dX5_isNoWalk_6 (by decide +kernel) (fun c6 => ?_) (fun c6 => ?_)
  · refine sw_iconst (pc' := 14) (v := 0) rfl dX5_isNoWalk_13 (by decide +kernel) ?_
    refine sw_ret (v := some _) ⟨dX5_isNoWalk_14, _, rfl, rfl⟩ ?_
    exact ⟨by rw [bI_1 c6]; rfl, rfl, rfl⟩
  · refine sw_iconst (pc' := 10) (v := 1) rfl dX5_isNoWalk_9 (by decide +kernel) ?_
    refine sw_goto (tgt := 14) dX5_isNoWalk_10 (by decide +kernel) ?_
    refine sw_ret (v := some _) ⟨dX5_isNoWalk_14, _, rfl, rfl⟩ ?_
    exact ⟨by rw [bI_0 c6]; rfl, rfl, rfl⟩
theorem q_isNoList {h : AH} {d bc bs n : Nat} {x : Int32} (hd : 1 ≤ d) : SM SR0 MX5_isNoList d bc bs [.int x] h n (Det (rI (bI (!inB x 8 10))) h n) := by
  refine sm_of pn_OverwalksModel rfl (Nat.le_of_ble_eq_true rfl) ?_
  refine sw_iload_n (pc' := 1) rfl dX5_isNoList_0 rfl ?_
  refine sw_bipush (pc' := 3) (v := 8) rfl dX5_isNoList_1 (by decide +kernel) ?_
  refine sw_bipush (pc' := 5) (v := 10) rfl dX5_isNoList_3 (by decide +kernel) ?_
  refine sw_S (M' := MX5_isIn) (d' := d - 1) (bc' := 0) (bs' := 0) (as := [_, _, _]) dX5_isNoList_5 w_1168 ok_X5_isIn (q_isIn) (by omega) (Nat.le_of_ble_eq_true rfl) (Nat.zero_le _) (Nat.zero_le _) (fun E h' n' _ z => det_x z) (det_k ?_)
  refine sw_if_ne (pc' := 11) (tgt := 15) rfl dX5_isNoList_8 (by decide +kernel) (fun c8 => ?_) (fun c8 => ?_)
  · refine sw_iconst (pc' := 16) (v := 0) rfl dX5_isNoList_15 (by decide +kernel) ?_
    refine sw_ret (v := some _) ⟨dX5_isNoList_16, _, rfl, rfl⟩ ?_
    exact ⟨by rw [bI_1 c8]; rfl, rfl, rfl⟩
  · refine sw_iconst (pc' := 12) (v := 1) rfl dX5_isNoList_11 (by decide +kernel) ?_
    refine sw_goto (tgt := 16) dX5_isNoList_12 (by decide +kernel) ?_
    refine sw_ret (v := some _) ⟨dX5_isNoList_16, _, rfl, rfl⟩ ?_
    exact ⟨by rw [bI_0 c8]; rfl, rfl, rfl⟩
def nrB (x : Int32) : Bool := !inB x 0 10 || (decide (2 < x) && decide (x < 8))
theorem q_isNoRow {h : AH} {d bc bs n : Nat} {x : Int32} (hd : 2 ≤ d) : SM SR0 MX5_isNoRow d bc bs [.int x] h n (Det (rI (bI (nrB x))) h n) := by
  refine sm_of pn_OverwalksModel rfl (Nat.le_of_ble_eq_true rfl) ?_
  refine sw_iload_n (pc' := 1) rfl dX5_isNoRow_0 rfl ?_
  refine sw_S (M' := MX5_isNone) (d' := d - 1) (bc' := 0) (bs' := 0) (as := [_]) dX5_isNoRow_1 w_1165 ok_X5_isNone (q_isNone (by omega)) (by omega) (Nat.le_of_ble_eq_true rfl) (Nat.zero_le _) (Nat.zero_le _) (fun E h' n' _ z => det_x z) (det_k ?_)
  refine sw_if_ne (pc' := 7) (tgt := 18) rfl dX5_isNoRow_4 (by decide +kernel) (fun c4 => ?_) (fun c4 => ?_)
  · refine sw_iconst (pc' := 19) (v := 1) rfl dX5_isNoRow_18 (by decide +kernel) ?_
    refine sw_goto (tgt := 23) dX5_isNoRow_19 (by decide +kernel) ?_
    refine sw_ret (v := some _) ⟨dX5_isNoRow_23, _, rfl, rfl⟩ ?_
    exact ⟨by rw [nrB, bI_1 c4]; rfl, rfl, rfl⟩
  · refine sw_iload_n (pc' := 8) rfl dX5_isNoRow_7 rfl ?_
    refine sw_iconst (pc' := 9) (v := 2) rfl dX5_isNoRow_8 (by decide +kernel) ?_
    refine sw_icmp_le (pc' := 12) (tgt := 22) rfl dX5_isNoRow_9 (by decide +kernel) (fun c9 => ?_) (fun c9 => ?_)
    · refine sw_iconst (pc' := 23) (v := 0) rfl dX5_isNoRow_22 (by decide +kernel) ?_
      refine sw_ret (v := some _) ⟨dX5_isNoRow_23, _, rfl, rfl⟩ ?_
      exact ⟨by rw [nrB, bI_0 c4, decide_eq_false (Int32.not_lt.mpr c9)]; rfl, rfl, rfl⟩
    · refine sw_iload_n (pc' := 13) rfl dX5_isNoRow_12 rfl ?_
      refine sw_bipush (pc' := 15) (v := 8) rfl dX5_isNoRow_13 (by decide +kernel) ?_
      refine sw_icmp_ge (pc' := 18) (tgt := 22) rfl dX5_isNoRow_15 (by decide +kernel) (fun c15 => ?_) (fun c15 => ?_)
      · refine sw_iconst (pc' := 23) (v := 0) rfl dX5_isNoRow_22 (by decide +kernel) ?_
        refine sw_ret (v := some _) ⟨dX5_isNoRow_23, _, rfl, rfl⟩ ?_
        exact ⟨by rw [nrB, bI_0 c4, decide_eq_false (Int32.not_lt.mpr c15), Bool.and_false]; rfl, rfl, rfl⟩
      · refine sw_iconst (pc' := 19) (v := 1) rfl dX5_isNoRow_18 (by decide +kernel) ?_
        refine sw_goto (tgt := 23) dX5_isNoRow_19 (by decide +kernel) ?_
        refine sw_ret (v := some _) ⟨dX5_isNoRow_23, _, rfl, rfl⟩ ?_
        exact ⟨by rw [nrB, bI_0 c4, decide_eq_true (Int32.not_le.mp c9), decide_eq_true (Int32.not_le.mp c15)]; rfl, rfl, rfl⟩
def tbB (x : Int32) : Bool := decide (x = 6) || decide (x = 7)
theorem q_isTable {h : AH} {d bc bs n : Nat} {x : Int32}  : SM SR0 MX5_isTable d bc bs [.int x] h n (Det (rI (bI (tbB x))) h n) := by
  refine sm_of pn_OverwalksModel rfl (Nat.le_of_ble_eq_true rfl) ?_
  refine sw_iload_n (pc' := 1) rfl dX5_isTable_0 rfl ?_
  refine sw_bipush (pc' := 3) (v := 6) rfl dX5_isTable_1 (by decide +kernel) ?_
  refine sw_icmp_eq (pc' := 6) (tgt := 12) rfl dX5_isTable_3 (by decide +kernel) (fun c3 => ?_) (fun c3 => ?_)
  · refine sw_iconst (pc' := 13) (v := 1) rfl dX5_isTable_12 (by decide +kernel) ?_
    refine sw_goto (tgt := 17) dX5_isTable_13 (by decide +kernel) ?_
    refine sw_ret (v := some _) ⟨dX5_isTable_17, _, rfl, rfl⟩ ?_
    exact ⟨by rw [tbB, decide_eq_true c3]; rfl, rfl, rfl⟩
  · refine sw_iload_n (pc' := 7) rfl dX5_isTable_6 rfl ?_
    refine sw_bipush (pc' := 9) (v := 7) rfl dX5_isTable_7 (by decide +kernel) ?_
    refine sw_icmp_ne (pc' := 12) (tgt := 16) rfl dX5_isTable_9 (by decide +kernel) (fun c9 => ?_) (fun c9 => ?_)
    · refine sw_iconst (pc' := 17) (v := 0) rfl dX5_isTable_16 (by decide +kernel) ?_
      refine sw_ret (v := some _) ⟨dX5_isTable_17, _, rfl, rfl⟩ ?_
      exact ⟨by rw [tbB, decide_eq_false c3, decide_eq_false c9]; rfl, rfl, rfl⟩
    · refine sw_iconst (pc' := 13) (v := 1) rfl dX5_isTable_12 (by decide +kernel) ?_
      refine sw_goto (tgt := 17) dX5_isTable_13 (by decide +kernel) ?_
      refine sw_ret (v := some _) ⟨dX5_isTable_17, _, rfl, rfl⟩ ?_
      exact ⟨by rw [tbB, decide_eq_true c9, Bool.or_true]; rfl, rfl, rfl⟩
def tnB (x : Int32) : Bool := !decide (x = 3) && (!decide (x = 5) && !tbB x)
theorem q_takesNothing {h : AH} {d bc bs n : Nat} {x : Int32} (hd : 1 ≤ d) : SM SR0 MX5_takesNothing d bc bs [.int x] h n (Det (rI (bI (tnB x))) h n) := by
  refine sm_of pn_OverwalksModel rfl (Nat.le_of_ble_eq_true rfl) ?_
  refine sw_iload_n (pc' := 1) rfl dX5_takesNothing_0 rfl ?_
  refine sw_iconst (pc' := 2) (v := 3) rfl dX5_takesNothing_1 (by decide +kernel) ?_
  refine sw_icmp_eq (pc' := 5) (tgt := 21) rfl dX5_takesNothing_2 (by decide +kernel) (fun c2 => ?_) (fun c2 => ?_)
  · refine sw_iconst (pc' := 22) (v := 0) rfl dX5_takesNothing_21 (by decide +kernel) ?_
    refine sw_ret (v := some _) ⟨dX5_takesNothing_22, _, rfl, rfl⟩ ?_
    exact ⟨by rw [tnB, decide_eq_true c2]; rfl, rfl, rfl⟩
  · refine sw_iload_n (pc' := 6) rfl dX5_takesNothing_5 rfl ?_
    refine sw_iconst (pc' := 7) (v := 5) rfl dX5_takesNothing_6 (by decide +kernel) ?_
    refine sw_icmp_eq (pc' := 10) (tgt := 21) rfl dX5_takesNothing_7 (by decide +kernel) (fun c7 => ?_) (fun c7 => ?_)
    · refine sw_iconst (pc' := 22) (v := 0) rfl dX5_takesNothing_21 (by decide +kernel) ?_
      refine sw_ret (v := some _) ⟨dX5_takesNothing_22, _, rfl, rfl⟩ ?_
      exact ⟨by rw [tnB, decide_eq_true c7, Bool.and_comm]; rfl, rfl, rfl⟩
    · refine sw_iload_n (pc' := 11) rfl dX5_takesNothing_10 rfl ?_
      refine sw_S (M' := MX5_isTable) (d' := d - 1) (bc' := 0) (bs' := 0) (as := [_]) dX5_takesNothing_11 w_1178 ok_X5_isTable (q_isTable) (by omega) (Nat.le_of_ble_eq_true rfl) (Nat.zero_le _) (Nat.zero_le _) (fun E h' n' _ z => det_x z) (det_k ?_)
      refine sw_if_ne (pc' := 17) (tgt := 21) rfl dX5_takesNothing_14 (by decide +kernel) (fun c14 => ?_) (fun c14 => ?_)
      · refine sw_iconst (pc' := 22) (v := 0) rfl dX5_takesNothing_21 (by decide +kernel) ?_
        refine sw_ret (v := some _) ⟨dX5_takesNothing_22, _, rfl, rfl⟩ ?_
        exact ⟨by rw [tnB, bI_1 c14, Bool.not_true, Bool.and_false, Bool.and_false]; rfl, rfl, rfl⟩
      · refine sw_iconst (pc' := 18) (v := 1) rfl dX5_takesNothing_17 (by decide +kernel) ?_
        refine sw_goto (tgt := 22) dX5_takesNothing_18 (by decide +kernel) ?_
        refine sw_ret (v := some _) ⟨dX5_takesNothing_22, _, rfl, rfl⟩ ?_
        exact ⟨by rw [tnB, decide_eq_false c2, decide_eq_false c7, bI_0 c14]; rfl, rfl, rfl⟩
theorem tb_k {k : Nat} (hk : k < 11) : tbB (nI k) = decide (kdO k = 5) := by
  revert k; decide
theorem tn_k {k : Nat} (hk : k < 11) : tnB (nI k) = kN (kdO k) := by
  revert k; decide
theorem nr_k {k : Nat} (hk : k < 11) : nrB (nI k) = !kP (kdO k) := by
  revert k; decide
theorem no_x {N : Nat} {a : Int32} (hN : N + 1 < 2 ^ 31) (q : a < 0 ∨ nI (N + 1) ≤ a) : inB a 0 (nI N) = false := by
  rcases q with q | q
  · exact inB_f1 q
  · by_cases g : a < 0
    · exact inB_f1 g
    · obtain ⟨j, hj, rfl⟩ := nI_of g
      exact inB_f2 (nI_lt (by have := (nI_leI (by omega) hj).mp q; omega) hj)
theorem q_isStopped {h : AH} {d bc bs n : Nat} {ρ : Nat → Nat → Int32} {τ : Nat → Int32} {σ : CS} {th : Int32} {a b c : Bool} (hM : MM h ρ τ σ th) (hA : AG ρ τ σ) : SM SR0 MX5_isStopped d bc bs [.ref 135, .int (bI a), .int (bI b), .int (bI c)] h n (RP h n (some (.int (bI (a || (b || c))))) σ (b3 a b c)) := by
  refine sm_of pn_OverwalksModel rfl (Nat.le_of_ble_eq_true rfl) ?_
  refine sw_aload_n (pc' := 1) rfl dX5_isStopped_0 rfl ?_
  refine sw_iload_n (pc' := 2) rfl dX5_isStopped_1 rfl ?_
  refine sw_if_eq (pc' := 5) (tgt := 9) rfl dX5_isStopped_2 (by decide +kernel) (fun c2 => ?_) (fun c2 => ?_)
  · refine sw_iload_n (pc' := 10) rfl dX5_isStopped_9 rfl ?_
    refine sw_if_eq (pc' := 13) (tgt := 17) rfl dX5_isStopped_10 (by decide +kernel) (fun c10 => ?_) (fun c10 => ?_)
    · refine sw_iload_n (pc' := 18) rfl dX5_isStopped_17 rfl ?_
      refine sw_if_eq (pc' := 21) (tgt := 25) rfl dX5_isStopped_18 (by decide +kernel) (fun c18 => ?_) (fun c18 => ?_)
      · refine sw_iconst (pc' := 26) (v := 0) rfl dX5_isStopped_25 (by decide +kernel) ?_
        refine sw_putf (ci := 6) (k := 0) (pc' := 29) rfl dX5_isStopped_26 (by decide +kernel) (by decide +kernel) w_1113 rfl hM.ob (by decide +kernel) (Nat.le_of_ble_eq_true rfl) rfl rfl ?_
        refine sw_nm (fun g1 eg1 => ?_)
        have zg1 := (congrFun eg1 135).trans (up_s (h := h) (i := 135))
        refine sw_aload_n (pc' := 30) rfl dX5_isStopped_29 rfl ?_
        refine sw_getf (ci := 6) (k := 0) (pc' := 33) rfl dX5_isStopped_30 (by decide +kernel) w_1113 zg1 rfl ?_
        refine sw_if_le (pc' := 36) (tgt := 40) rfl dX5_isStopped_33 (by decide +kernel) (fun c33 => ?_) (fun c33 => ?_)
        · refine sw_iconst (pc' := 41) (v := 0) rfl dX5_isStopped_40 (by decide +kernel) ?_
          refine sw_ret (v := some _) ⟨dX5_isStopped_41, _, rfl, rfl⟩ ?_
          rw [bI_0 c2, bI_0 c10, bI_0 c18]
          exact ⟨rfl, rfl, ⟨_, _, hM.obU (τ' := σ) zg1 (fun i h1 => (congrFun eg1 i).trans ((up_n h1).trans (rfl))) rfl rfl rfl rfl, hA⟩, FrM.of1 (fun i q => (congrFun eg1 i).trans ((up_n (by omega)).trans (rfl)))⟩
        · exact absurd c33 (by decide +kernel)
      · refine sw_iconst (pc' := 22) (v := 3) rfl dX5_isStopped_21 (by decide +kernel) ?_
        refine sw_goto (tgt := 26) dX5_isStopped_22 (by decide +kernel) ?_
        refine sw_putf (ci := 6) (k := 0) (pc' := 29) rfl dX5_isStopped_26 (by decide +kernel) (by decide +kernel) w_1113 rfl hM.ob (by decide +kernel) (Nat.le_of_ble_eq_true rfl) rfl rfl ?_
        refine sw_nm (fun g2 eg2 => ?_)
        have zg2 := (congrFun eg2 135).trans (up_s (h := h) (i := 135))
        refine sw_aload_n (pc' := 30) rfl dX5_isStopped_29 rfl ?_
        refine sw_getf (ci := 6) (k := 0) (pc' := 33) rfl dX5_isStopped_30 (by decide +kernel) w_1113 zg2 rfl ?_
        refine sw_if_le (pc' := 36) (tgt := 40) rfl dX5_isStopped_33 (by decide +kernel) (fun c33 => ?_) (fun c33 => ?_)
        · exact absurd c33 (by decide +kernel)
        · refine sw_iconst (pc' := 37) (v := 1) rfl dX5_isStopped_36 (by decide +kernel) ?_
          refine sw_goto (tgt := 41) dX5_isStopped_37 (by decide +kernel) ?_
          refine sw_ret (v := some _) ⟨dX5_isStopped_41, _, rfl, rfl⟩ ?_
          rw [bI_0 c2, bI_0 c10, bI_1 c18]
          exact ⟨rfl, rfl, ⟨_, _, hM.obU (τ' := σ) zg2 (fun i h1 => (congrFun eg2 i).trans ((up_n h1).trans (rfl))) rfl rfl rfl rfl, hA⟩, FrM.of1 (fun i q => (congrFun eg2 i).trans ((up_n (by omega)).trans (rfl)))⟩
    · refine sw_iconst (pc' := 14) (v := 2) rfl dX5_isStopped_13 (by decide +kernel) ?_
      refine sw_goto (tgt := 26) dX5_isStopped_14 (by decide +kernel) ?_
      refine sw_putf (ci := 6) (k := 0) (pc' := 29) rfl dX5_isStopped_26 (by decide +kernel) (by decide +kernel) w_1113 rfl hM.ob (by decide +kernel) (Nat.le_of_ble_eq_true rfl) rfl rfl ?_
      refine sw_nm (fun g3 eg3 => ?_)
      have zg3 := (congrFun eg3 135).trans (up_s (h := h) (i := 135))
      refine sw_aload_n (pc' := 30) rfl dX5_isStopped_29 rfl ?_
      refine sw_getf (ci := 6) (k := 0) (pc' := 33) rfl dX5_isStopped_30 (by decide +kernel) w_1113 zg3 rfl ?_
      refine sw_if_le (pc' := 36) (tgt := 40) rfl dX5_isStopped_33 (by decide +kernel) (fun c33 => ?_) (fun c33 => ?_)
      · exact absurd c33 (by decide +kernel)
      · refine sw_iconst (pc' := 37) (v := 1) rfl dX5_isStopped_36 (by decide +kernel) ?_
        refine sw_goto (tgt := 41) dX5_isStopped_37 (by decide +kernel) ?_
        refine sw_ret (v := some _) ⟨dX5_isStopped_41, _, rfl, rfl⟩ ?_
        rw [bI_0 c2, bI_1 c10]
        exact ⟨rfl, rfl, ⟨_, _, hM.obU (τ' := σ) zg3 (fun i h1 => (congrFun eg3 i).trans ((up_n h1).trans (rfl))) rfl rfl rfl rfl, hA⟩, FrM.of1 (fun i q => (congrFun eg3 i).trans ((up_n (by omega)).trans (rfl)))⟩
  · refine sw_iconst (pc' := 6) (v := 1) rfl dX5_isStopped_5 (by decide +kernel) ?_
    refine sw_goto (tgt := 26) dX5_isStopped_6 (by decide +kernel) ?_
    refine sw_putf (ci := 6) (k := 0) (pc' := 29) rfl dX5_isStopped_26 (by decide +kernel) (by decide +kernel) w_1113 rfl hM.ob (by decide +kernel) (Nat.le_of_ble_eq_true rfl) rfl rfl ?_
    refine sw_nm (fun g4 eg4 => ?_)
    have zg4 := (congrFun eg4 135).trans (up_s (h := h) (i := 135))
    refine sw_aload_n (pc' := 30) rfl dX5_isStopped_29 rfl ?_
    refine sw_getf (ci := 6) (k := 0) (pc' := 33) rfl dX5_isStopped_30 (by decide +kernel) w_1113 zg4 rfl ?_
    refine sw_if_le (pc' := 36) (tgt := 40) rfl dX5_isStopped_33 (by decide +kernel) (fun c33 => ?_) (fun c33 => ?_)
    · exact absurd c33 (by decide +kernel)
    · refine sw_iconst (pc' := 37) (v := 1) rfl dX5_isStopped_36 (by decide +kernel) ?_
      refine sw_goto (tgt := 41) dX5_isStopped_37 (by decide +kernel) ?_
      refine sw_ret (v := some _) ⟨dX5_isStopped_41, _, rfl, rfl⟩ ?_
      rw [bI_1 c2]
      exact ⟨rfl, rfl, ⟨_, _, hM.obU (τ' := σ) zg4 (fun i h1 => (congrFun eg4 i).trans ((up_n h1).trans (rfl))) rfl rfl rfl rfl, hA⟩, FrM.of1 (fun i q => (congrFun eg4 i).trans ((up_n (by omega)).trans (rfl)))⟩
theorem q_isStopped2 {h : AH} {d bc bs n : Nat} {ρ : Nat → Nat → Int32} {τ : Nat → Int32} {σ : CS} {th : Int32} {a b : Bool} (hM : MM h ρ τ σ th) (hA : AG ρ τ σ) (hd : 1 ≤ d) : SM SR0 MX5_isStopped_ d bc bs [.ref 135, .int (bI a), .int (bI b)] h n (RP h n (some (.int (bI (a || b)))) σ (b3 a b false)) := by
  refine sm_of pn_OverwalksModel rfl (Nat.le_of_ble_eq_true rfl) ?_
  refine sw_aload_n (pc' := 1) rfl dX5_isStopped__0 rfl ?_
  refine sw_iload_n (pc' := 2) rfl dX5_isStopped__1 rfl ?_
  refine sw_iload_n (pc' := 3) rfl dX5_isStopped__2 rfl ?_
  refine sw_iconst (pc' := 4) (v := 0) rfl dX5_isStopped__3 (by decide +kernel) ?_
  refine sw_V (M' := MX5_isStopped) (d' := d - 1) (bc' := 0) (bs' := 0) (ci := 6) (as := [_, _, _]) dX5_isStopped__4 w_1174 ok_X5_isStopped (q_isStopped (a := a) (b := b) (c := false) hM hA) hM.ob rfl (by omega) (Nat.le_of_ble_eq_true rfl) (Nat.zero_le _) (Nat.zero_le _) (fun E h' n' _ z => rp_x z) (rp_k (fun p ρ' τ' pM pA pF => ?_))
  refine sw_ret (v := some _) ⟨dX5_isStopped__7, _, rfl, bI_i⟩ ?_
  exact ⟨by simp, rfl, ⟨_, _, pM, pA⟩, pF⟩
theorem q_isStopped1 {h : AH} {d bc bs n : Nat} {ρ : Nat → Nat → Int32} {τ : Nat → Int32} {σ : CS} {th : Int32} {a : Bool} (hM : MM h ρ τ σ th) (hA : AG ρ τ σ) (hd : 1 ≤ d) : SM SR0 MX5_isStopped__ d bc bs [.ref 135, .int (bI a)] h n (RP h n (some (.int (bI a))) σ (b3 a false false)) := by
  refine sm_of pn_OverwalksModel rfl (Nat.le_of_ble_eq_true rfl) ?_
  refine sw_aload_n (pc' := 1) rfl dX5_isStopped___0 rfl ?_
  refine sw_iload_n (pc' := 2) rfl dX5_isStopped___1 rfl ?_
  refine sw_iconst (pc' := 3) (v := 0) rfl dX5_isStopped___2 (by decide +kernel) ?_
  refine sw_iconst (pc' := 4) (v := 0) rfl dX5_isStopped___3 (by decide +kernel) ?_
  refine sw_V (M' := MX5_isStopped) (d' := d - 1) (bc' := 0) (bs' := 0) (ci := 6) (as := [_, _, _]) dX5_isStopped___4 w_1174 ok_X5_isStopped (q_isStopped (a := a) (b := false) (c := false) hM hA) hM.ob rfl (by omega) (Nat.le_of_ble_eq_true rfl) (Nat.zero_le _) (Nat.zero_le _) (fun E h' n' _ z => rp_x z) (rp_k (fun p ρ' τ' pM pA pF => ?_))
  refine sw_ret (v := some _) ⟨dX5_isStopped___7, _, rfl, bI_i⟩ ?_
  exact ⟨by simp, rfl, ⟨_, _, pM, pA⟩, pF⟩
theorem q_no {h : AH} {d bc bs n : Nat} {ρ : Nat → Nat → Int32} {τ : Nat → Int32} {σ : CS} {th : Int32} (hM : MM h ρ τ σ th) (hA : AG ρ τ σ) : SM SR0 MX5_no d bc bs [.ref 135] h n (RP h n (some (.int (-9))) (rfU σ) th) := by
  refine sm_of pn_OverwalksModel rfl (Nat.le_of_ble_eq_true rfl) ?_
  refine sw_aload_n (pc' := 1) rfl dX5_no_0 rfl ?_
  refine sw_dup (pc' := 2) rfl dX5_no_1 rfl ?_
  refine sw_getf (ci := 6) (k := 2) (pc' := 5) rfl dX5_no_2 (by decide +kernel) w_1115 hM.ob rfl ?_
  refine sw_iconst (pc' := 6) (v := 1) rfl dX5_no_5 (by decide +kernel) ?_
  refine sw_iadd (pc' := 7) rfl dX5_no_6 ?_
  refine sw_putf (ci := 6) (k := 2) (pc' := 10) rfl dX5_no_7 (by decide +kernel) (by decide +kernel) w_1115 rfl hM.ob (by decide +kernel) (Nat.le_of_ble_eq_true rfl) rfl rfl ?_
  refine sw_nm (fun g1 eg1 => ?_)
  have zg1 := (congrFun eg1 135).trans (up_s (h := h) (i := 135))
  refine sw_bipush (pc' := 12) (v := (-9)) rfl dX5_no_10 (by decide +kernel) ?_
  refine sw_ret (v := some _) ⟨dX5_no_12, _, rfl, rfl⟩ ?_
  exact ⟨rfl, rfl, ⟨_, _, hM.obU (τ' := rfU σ) zg1 (fun i h1 => (congrFun eg1 i).trans ((up_n h1).trans (rfl))) rfl rfl rfl rfl, hA⟩, FrM.of1 (fun i q => (congrFun eg1 i).trans ((up_n (by omega)).trans (rfl)))⟩
theorem q_noText {h : AH} {d bc bs n : Nat} {ρ : Nat → Nat → Int32} {τ : Nat → Int32} {σ : CS} {th : Int32} (hM : MM h ρ τ σ th) (hA : AG ρ τ σ) : SM SR0 MX5_noText d bc bs [.ref 135] h n (RP h n (some (.ref 40)) (rfU σ) th) := by
  refine sm_of pn_OverwalksModel rfl (Nat.le_of_ble_eq_true rfl) ?_
  refine sw_aload_n (pc' := 1) rfl dX5_noText_0 rfl ?_
  refine sw_dup (pc' := 2) rfl dX5_noText_1 rfl ?_
  refine sw_getf (ci := 6) (k := 2) (pc' := 5) rfl dX5_noText_2 (by decide +kernel) w_1115 hM.ob rfl ?_
  refine sw_iconst (pc' := 6) (v := 1) rfl dX5_noText_5 (by decide +kernel) ?_
  refine sw_iadd (pc' := 7) rfl dX5_noText_6 ?_
  refine sw_putf (ci := 6) (k := 2) (pc' := 10) rfl dX5_noText_7 (by decide +kernel) (by decide +kernel) w_1115 rfl hM.ob (by decide +kernel) (Nat.le_of_ble_eq_true rfl) rfl rfl ?_
  refine sw_nm (fun g1 eg1 => ?_)
  have zg1 := (congrFun eg1 135).trans (up_s (h := h) (i := 135))
  refine sw_ldcS (pc' := 12) rfl dX5_noText_10 (SRm 20 rfl) (by decide +kernel) ?_
  refine sw_ret (v := some _) ⟨dX5_noText_12, _, rfl, Or.inl ⟨_, rfl⟩⟩ ?_
  exact ⟨rfl, rfl, ⟨_, _, hM.obU (τ' := rfU σ) zg1 (fun i h1 => (congrFun eg1 i).trans ((up_n h1).trans (rfl))) rfl rfl rfl rfl, hA⟩, FrM.of1 (fun i q => (congrFun eg1 i).trans ((up_n (by omega)).trans (rfl)))⟩
theorem q_knock {h : AH} {d bc bs n : Nat} {ρ : Nat → Nat → Int32} {τ : Nat → Int32} {σ : CS} {th : Int32} (hM : MM h ρ τ σ th) (hA : AG ρ τ σ) : SM SR0 MX5_knock d bc bs [.ref 135] h n (RP h n (some (.int (σ.2.2.2.2.2.2 + 1))) (knU σ) 0) := by
  refine sm_of pn_OverwalksModel rfl (Nat.le_of_ble_eq_true rfl) ?_
  refine sw_aload_n (pc' := 1) rfl dX5_knock_0 rfl ?_
  refine sw_iconst (pc' := 2) (v := 0) rfl dX5_knock_1 (by decide +kernel) ?_
  refine sw_putf (ci := 6) (k := 0) (pc' := 5) rfl dX5_knock_2 (by decide +kernel) (by decide +kernel) w_1113 rfl hM.ob (by decide +kernel) (Nat.le_of_ble_eq_true rfl) rfl rfl ?_
  refine sw_nm (fun g1 eg1 => ?_)
  have zg1 := (congrFun eg1 135).trans (up_s (h := h) (i := 135))
  refine sw_aload_n (pc' := 6) rfl dX5_knock_5 rfl ?_
  refine sw_dup (pc' := 7) rfl dX5_knock_6 rfl ?_
  refine sw_getf (ci := 6) (k := 1) (pc' := 10) rfl dX5_knock_7 (by decide +kernel) w_1114 zg1 rfl ?_
  refine sw_iconst (pc' := 11) (v := 1) rfl dX5_knock_10 (by decide +kernel) ?_
  refine sw_iadd (pc' := 12) rfl dX5_knock_11 ?_
  refine sw_putf (ci := 6) (k := 1) (pc' := 15) rfl dX5_knock_12 (by decide +kernel) (by decide +kernel) w_1114 rfl zg1 (by decide +kernel) (Nat.le_of_ble_eq_true rfl) rfl rfl ?_
  refine sw_nm (fun g2 eg2 => ?_)
  have zg2 := (congrFun eg2 135).trans (up_s (h := g1) (i := 135))
  refine sw_aload_n (pc' := 16) rfl dX5_knock_15 rfl ?_
  refine sw_getf (ci := 6) (k := 1) (pc' := 19) rfl dX5_knock_16 (by decide +kernel) w_1114 zg2 rfl ?_
  refine sw_ret (v := some _) ⟨dX5_knock_19, _, rfl, rfl⟩ ?_
  exact ⟨rfl, rfl, ⟨_, _, hM.obU (τ' := knU σ) zg2 (fun i h1 => (congrFun eg2 i).trans ((up_n h1).trans ((congrFun eg1 i).trans ((up_n h1).trans (rfl))))) rfl rfl rfl rfl, hA⟩, FrM.of1 (fun i q => (congrFun eg2 i).trans ((up_n (by omega)).trans ((congrFun eg1 i).trans ((up_n (by omega)).trans (rfl)))))⟩
theorem q_isSound {h : AH} {d bc bs n : Nat} {ρ : Nat → Nat → Int32} {τ : Nat → Int32} {σ : CS} {th : Int32} (hM : MM h ρ τ σ th) (hA : AG ρ τ σ) : SM SR0 MX5_isSound d bc bs [.ref 135] h n (RP h n (some (.int 1)) σ 0) := by
  refine sm_of pn_OverwalksModel rfl (Nat.le_of_ble_eq_true rfl) ?_
  refine sw_aload_n (pc' := 1) rfl dX5_isSound_0 rfl ?_
  refine sw_iconst (pc' := 2) (v := 0) rfl dX5_isSound_1 (by decide +kernel) ?_
  refine sw_putf (ci := 6) (k := 0) (pc' := 5) rfl dX5_isSound_2 (by decide +kernel) (by decide +kernel) w_1113 rfl hM.ob (by decide +kernel) (Nat.le_of_ble_eq_true rfl) rfl rfl ?_
  refine sw_nm (fun g1 eg1 => ?_)
  have zg1 := (congrFun eg1 135).trans (up_s (h := h) (i := 135))
  refine sw_iconst (pc' := 6) (v := 1) rfl dX5_isSound_5 (by decide +kernel) ?_
  refine sw_ret (v := some _) ⟨dX5_isSound_6, _, rfl, rfl⟩ ?_
  exact ⟨rfl, rfl, ⟨_, _, hM.obU (τ' := σ) zg1 (fun i h1 => (congrFun eg1 i).trans ((up_n h1).trans (rfl))) rfl rfl rfl rfl, hA⟩, FrM.of1 (fun i q => (congrFun eg1 i).trans ((up_n (by omega)).trans (rfl)))⟩
theorem q_thrown {h : AH} {d bc bs n : Nat} {ρ : Nat → Nat → Int32} {τ : Nat → Int32} {σ : CS} {th : Int32} (hM : MM h ρ τ σ th) : SM SR0 MX5_thrown d bc bs [.ref 135] h n (Det (rI th) h n) := by
  refine sm_of pn_OverwalksModel rfl (Nat.le_of_ble_eq_true rfl) ?_
  refine sw_aload_n (pc' := 1) rfl dX5_thrown_0 rfl ?_
  refine sw_getf (ci := 6) (k := 0) (pc' := 4) rfl dX5_thrown_1 (by decide +kernel) w_1113 hM.ob rfl ?_
  refine sw_ret (v := some _) ⟨dX5_thrown_4, _, rfl, rfl⟩ ?_
  exact ⟨rfl, rfl, rfl⟩
end
section
/-! 37.model -/
/-! the model: rows -/
theorem nI_m0 (a : Nat) : nI a + bI false = nI a := Int32.add_zero _
theorem coN_le {f : Nat → Int32} {x : Int32} {m : Nat} : ∀ {j : Nat}, coN f x j m ≤ m := by
  induction m with
  | zero => intro j; exact Nat.le_refl _
  | succ m ih =>
    intro j
    unfold coN
    have := @ih (j + 1)
    split <;> omega
theorem coN_s {f : Nat → Int32} {x : Int32} {m : Nat} : ∀ {j : Nat}, decide (0 < coN f x j m) = (fpN f x j m).isSome := by
  induction m with
  | zero => intro j; rfl
  | succ m ih =>
    intro j
    unfold coN fpN
    by_cases e : f j = x
    · rw [if_pos e, if_pos e]
      exact decide_eq_true (by omega)
    · rw [if_neg e, if_neg e, Nat.zero_add]
      exact ih
theorem nI_gt0 {m : Nat} (hm : m < 2 ^ 31) : (0 : Int32) < nI m ↔ 0 < m := nI_ltI (a := 0) (by decide +kernel) hm
/-- k's row with m more than p moved on -/
theorem up2 {α : Type} {f : Nat → α} {i : Nat} {a c : α} : up (up f i a) i c = up f i c := by
  funext j
  unfold up
  split <;> rfl
theorem laN_at {f g : Nat → Int32} {p c : Nat} {x : Int32} (hp : p ≤ c) (h : ∀ j, j < c → g j = f j) : ∀ j, j < c + 1 → laN g p x c j = laN f p x c j := by
  intro j hj
  unfold laN
  by_cases e : j = p
  · subst e; rw [up_s, up_s]
  · rw [up_n e, up_n e]
    unfold mvN
    split
    · exact h _ (by omega)
    · by_cases e2 : j < c
      · exact h _ e2
      · next q => exact absurd ⟨by omega, by omega⟩ q
theorem liN_at {f g : Nat → Int32} {p c : Nat} (h : ∀ j, j < c + 1 → g j = f j) : ∀ j, j < c → liN g p c j = liN f p c j := by
  intro j hj
  unfold liN
  split
  · exact h _ (by omega)
  · exact h _ (by omega)
theorem nI_nle2 {a b : Nat} (h : a < b) (hb : b < 2 ^ 31) : ¬ nI b ≤ nI a := nI_ge h hb
theorem ql_count {h : AH} {d bc bs n : Nat} {ρ : Nat → Nat → Int32} {τ : Nat → Int32} {σ : CS} {th : Int32} {x : Int32} (hM : MM h ρ τ σ th) (hA : AG ρ τ σ) {k : Nat} (hk : k < 11) (hc : σ.2.1 k ≤ 12) (hd : 1 ≤ d) (m : Nat) : ∀ j a, j + m = σ.2.1 k → SW SR0 MX5_count d bc bs 5 [(4, .int (nI j)), (3, .int (nI a)), (0, .ref 135), (1, .int (nI k)), (2, .int x)] [] h n (Det (rI (nI (a + coN (σ.1 k) x j m))) h n) := by
  obtain ⟨G0, hG0, eG0⟩ := hM.out
  induction m with
  | zero =>
    intro j a hj
    have hjc : j = σ.2.1 k := by omega
    subst hjc
    refine sw_iload (pc' := 7) rfl dX5_count_5 rfl ?_
    refine sw_aload_n (pc' := 8) rfl dX5_count_7 rfl ?_
    refine sw_getf (ci := 6) (k := 4) (pc' := 11) rfl dX5_count_8 (by decide +kernel) w_1117 hM.ob rfl ?_
    refine sw_iload_n (pc' := 12) rfl dX5_count_11 rfl ?_
    refine sw_iald (j := k) (pc' := 13) rfl dX5_count_12 hM.sz rfl (by omega) (by decide +kernel) ?_
    refine sw_icmp_ge (pc' := 16) (tgt := 46) rfl dX5_count_13 (by decide +kernel) (fun c13 => ?_) (fun c13 => ?_)
    · refine sw_iload_n (pc' := 47) rfl dX5_count_46 rfl ?_
      refine sw_ret (v := some _) ⟨dX5_count_47, _, rfl, rfl⟩ ?_
      exact ⟨rfl, rfl, rfl⟩
    · exact absurd (Int32.le_refl _) c13
  | succ m ih =>
    intro j a hj
    refine sw_iload (pc' := 7) rfl dX5_count_5 rfl ?_
    refine sw_aload_n (pc' := 8) rfl dX5_count_7 rfl ?_
    refine sw_getf (ci := 6) (k := 4) (pc' := 11) rfl dX5_count_8 (by decide +kernel) w_1117 hM.ob rfl ?_
    refine sw_iload_n (pc' := 12) rfl dX5_count_11 rfl ?_
    refine sw_iald (j := k) (pc' := 13) rfl dX5_count_12 hM.sz rfl (by omega) (by decide +kernel) ?_
    refine sw_icmp_ge (pc' := 16) (tgt := 46) rfl dX5_count_13 (by decide +kernel) (fun c13 => ?_) (fun c13 => ?_)
    · exact absurd c13 (nI_ge (by omega) (by omega))
    · refine sw_iload_n (pc' := 17) rfl dX5_count_16 rfl ?_
      refine sw_aload_n (pc' := 18) rfl dX5_count_17 rfl ?_
      refine sw_getf (ci := 6) (k := 3) (pc' := 21) rfl dX5_count_18 (by decide +kernel) w_1116 hM.ob rfl ?_
      refine sw_iload_n (pc' := 22) rfl dX5_count_21 rfl ?_
      refine sw_aald (j := k) (pc' := 23) rfl dX5_count_22 hG0 (by decide +kernel) (by decide +kernel) rfl (by omega) (by decide +kernel) (eG0 k (by omega)) ?_
      refine sw_iload (pc' := 25) rfl dX5_count_23 rfl ?_
      refine sw_iald (j := j) (pc' := 26) rfl dX5_count_25 (hM.row (k := k) (by omega)) rfl (by omega) (by decide +kernel) ?_
      rw [hA.1 k (by omega) j (by omega)]
      refine sw_iload_n (pc' := 27) rfl dX5_count_26 rfl ?_
      refine sw_icmp_ne (pc' := 30) (tgt := 34) rfl dX5_count_27 (by decide +kernel) (fun c27 => ?_) (fun c27 => ?_)
      · refine sw_iconst (pc' := 35) (v := 0) rfl dX5_count_34 (by decide +kernel) ?_
        refine sw_S (M' := MX5_one) (d' := d - 1) (bc' := 0) (bs' := 0) (as := [_]) dX5_count_35 w_1196 ok_X5_one (q_one (q := false)) (by omega) (Nat.le_of_ble_eq_true rfl) (Nat.zero_le _) (Nat.zero_le _) (fun E h' n' _ z => det_x z) (det_k ?_)
        refine sw_iadd (pc' := 39) rfl dX5_count_38 ?_
        rw [nI_m0 a]
        refine sw_istore_n (pc' := 40) (lv' := [(3, _), (4, _), (0, _), (1, _), (2, _)]) rfl dX5_count_39 (by decide +kernel) rfl ?_
        refine sw_iinc (pc' := 43) (lv' := [(4, _), (3, _), (0, _), (1, _), (2, _)]) (v := nI (j + 1)) rfl dX5_count_40 rfl (nI_1 j) (by decide +kernel) rfl ?_
        refine sw_goto (tgt := 5) dX5_count_43 (by decide +kernel) ?_
        rw [coN, if_neg c27, Nat.zero_add]
        exact ih (j + 1) a (by omega)
      · refine sw_iconst (pc' := 31) (v := 1) rfl dX5_count_30 (by decide +kernel) ?_
        refine sw_goto (tgt := 35) dX5_count_31 (by decide +kernel) ?_
        refine sw_S (M' := MX5_one) (d' := d - 1) (bc' := 0) (bs' := 0) (as := [_]) dX5_count_35 w_1196 ok_X5_one (q_one (q := true)) (by omega) (Nat.le_of_ble_eq_true rfl) (Nat.zero_le _) (Nat.zero_le _) (fun E h' n' _ z => det_x z) (det_k ?_)
        refine sw_iadd (pc' := 39) rfl dX5_count_38 ?_
        rw [show nI a + bI true = nI (a + 1) from nI_1 a]
        refine sw_istore_n (pc' := 40) (lv' := [(3, _), (4, _), (0, _), (1, _), (2, _)]) rfl dX5_count_39 (by decide +kernel) rfl ?_
        refine sw_iinc (pc' := 43) (lv' := [(4, _), (3, _), (0, _), (1, _), (2, _)]) (v := nI (j + 1)) rfl dX5_count_40 rfl (nI_1 j) (by decide +kernel) rfl ?_
        refine sw_goto (tgt := 5) dX5_count_43 (by decide +kernel) ?_
        rw [coN, if_pos c27, ← Nat.add_assoc]
        exact ih (j + 1) (a + 1) (by omega)
theorem q_count {h : AH} {d bc bs n : Nat} {ρ : Nat → Nat → Int32} {τ : Nat → Int32} {σ : CS} {th : Int32} {x : Int32} (hM : MM h ρ τ σ th) (hA : AG ρ τ σ) {k : Nat} (hk : k < 11) (hc : σ.2.1 k ≤ 12) (hd : 1 ≤ d) : SM SR0 MX5_count d bc bs [.ref 135, .int (nI k), .int x] h n (Det (rI (nI (coN (σ.1 k) x 0 (σ.2.1 k)))) h n) := by
  refine sm_of pn_OverwalksModel rfl (Nat.le_of_ble_eq_true rfl) ?_
  refine sw_iconst (pc' := 1) (v := 0) rfl dX5_count_0 (by decide +kernel) ?_
  refine sw_istore_n (pc' := 2) (lv' := [(3, _), (0, _), (1, _), (2, _)]) rfl dX5_count_1 (by decide +kernel) rfl ?_
  refine sw_iconst (pc' := 3) (v := 0) rfl dX5_count_2 (by decide +kernel) ?_
  refine sw_istore (pc' := 5) (lv' := [(4, _), (3, _), (0, _), (1, _), (2, _)]) rfl dX5_count_3 (by decide +kernel) rfl ?_
  have g := ql_count (d := d) (bc := bc) (bs := bs) (n := n) (x := x) hM hA hk hc hd (σ.2.1 k) 0 0 (by omega)
  rw [Nat.zero_add] at g
  exact g
theorem ql_firstPlace {h : AH} {d bc bs n : Nat} {ρ : Nat → Nat → Int32} {τ : Nat → Int32} {σ : CS} {th : Int32} {x : Int32} (hM : MM h ρ τ σ th) (hA : AG ρ τ σ) {k : Nat} (hk : k < 11) (hc : σ.2.1 k ≤ 12) (m : Nat) : m ≤ σ.2.1 k → SW SR0 MX5_firstPlace d bc bs 12 [(4, .int (nI m - 1)), (3, .int (opI (fpN (σ.1 k) x m (σ.2.1 k - m)))), (0, .ref 135), (1, .int (nI k)), (2, .int x)] [] h n (Det (rI (opI (fpN (σ.1 k) x 0 (σ.2.1 k)))) h n) := by
  obtain ⟨G0, hG0, eG0⟩ := hM.out
  induction m with
  | zero =>
    intro hm
    refine sw_iload (pc' := 14) rfl dX5_firstPlace_12 rfl ?_
    refine sw_if_lt (pc' := 17) (tgt := 43) rfl dX5_firstPlace_14 (by decide +kernel) (fun c14 => ?_) (fun c14 => ?_)
    · refine sw_iload_n (pc' := 44) rfl dX5_firstPlace_43 rfl ?_
      refine sw_ret (v := some _) ⟨dX5_firstPlace_44, _, rfl, rfl⟩ ?_
      exact ⟨rfl, rfl, rfl⟩
    · exact absurd (by decide +kernel) c14
  | succ m ih =>
    intro hm
    rw [nI_pred]
    refine sw_iload (pc' := 14) rfl dX5_firstPlace_12 rfl ?_
    refine sw_if_lt (pc' := 17) (tgt := 43) rfl dX5_firstPlace_14 (by decide +kernel) (fun c14 => ?_) (fun c14 => ?_)
    · exact absurd c14 (nI_pos (by omega))
    · refine sw_aload_n (pc' := 18) rfl dX5_firstPlace_17 rfl ?_
      refine sw_getf (ci := 6) (k := 3) (pc' := 21) rfl dX5_firstPlace_18 (by decide +kernel) w_1116 hM.ob rfl ?_
      refine sw_iload_n (pc' := 22) rfl dX5_firstPlace_21 rfl ?_
      refine sw_aald (j := k) (pc' := 23) rfl dX5_firstPlace_22 hG0 (by decide +kernel) (by decide +kernel) rfl (by omega) (by decide +kernel) (eG0 k (by omega)) ?_
      refine sw_iload (pc' := 25) rfl dX5_firstPlace_23 rfl ?_
      refine sw_iald (j := m) (pc' := 26) rfl dX5_firstPlace_25 (hM.row (k := k) (by omega)) rfl (by omega) (by decide +kernel) ?_
      rw [hA.1 k (by omega) m (by omega)]
      refine sw_iload_n (pc' := 27) rfl dX5_firstPlace_26 rfl ?_
      refine sw_icmp_ne (pc' := 30) (tgt := 35) rfl dX5_firstPlace_27 (by decide +kernel) (fun c27 => ?_) (fun c27 => ?_)
      · refine sw_iload_n (pc' := 36) rfl dX5_firstPlace_35 rfl ?_
        refine sw_istore_n (pc' := 37) (lv' := [(3, _), (4, _), (0, _), (1, _), (2, _)]) rfl dX5_firstPlace_36 (by decide +kernel) rfl ?_
        refine sw_iinc (pc' := 40) (lv' := [(4, _), (3, _), (0, _), (1, _), (2, _)]) (v := nI m - 1) rfl dX5_firstPlace_37 rfl (i_m1 _) (by decide +kernel) rfl ?_
        refine sw_goto (tgt := 12) dX5_firstPlace_40 (by decide +kernel) ?_
        have g := ih (by omega)
        rw [show σ.2.1 k - m = (σ.2.1 k - (m + 1)) + 1 by omega, fpN, if_neg c27] at g
        exact g
      · refine sw_iload (pc' := 32) rfl dX5_firstPlace_30 rfl ?_
        refine sw_goto (tgt := 36) dX5_firstPlace_32 (by decide +kernel) ?_
        refine sw_istore_n (pc' := 37) (lv' := [(3, _), (4, _), (0, _), (1, _), (2, _)]) rfl dX5_firstPlace_36 (by decide +kernel) rfl ?_
        refine sw_iinc (pc' := 40) (lv' := [(4, _), (3, _), (0, _), (1, _), (2, _)]) (v := nI m - 1) rfl dX5_firstPlace_37 rfl (i_m1 _) (by decide +kernel) rfl ?_
        refine sw_goto (tgt := 12) dX5_firstPlace_40 (by decide +kernel) ?_
        have g := ih (by omega)
        rw [show σ.2.1 k - m = (σ.2.1 k - (m + 1)) + 1 by omega, fpN, if_pos c27] at g
        exact g
theorem q_firstPlace {h : AH} {d bc bs n : Nat} {ρ : Nat → Nat → Int32} {τ : Nat → Int32} {σ : CS} {th : Int32} {x : Int32} (hM : MM h ρ τ σ th) (hA : AG ρ τ σ) {k : Nat} (hk : k < 11) (hc : σ.2.1 k ≤ 12) : SM SR0 MX5_firstPlace d bc bs [.ref 135, .int (nI k), .int x] h n (Det (rI (opI (fpN (σ.1 k) x 0 (σ.2.1 k)))) h n) := by
  obtain ⟨G0, hG0, eG0⟩ := hM.out
  refine sm_of pn_OverwalksModel rfl (Nat.le_of_ble_eq_true rfl) ?_
  refine sw_iconst (pc' := 1) (v := (-1)) rfl dX5_firstPlace_0 (by decide +kernel) ?_
  refine sw_istore_n (pc' := 2) (lv' := [(3, _), (0, _), (1, _), (2, _)]) rfl dX5_firstPlace_1 (by decide +kernel) rfl ?_
  refine sw_aload_n (pc' := 3) rfl dX5_firstPlace_2 rfl ?_
  refine sw_getf (ci := 6) (k := 4) (pc' := 6) rfl dX5_firstPlace_3 (by decide +kernel) w_1117 hM.ob rfl ?_
  refine sw_iload_n (pc' := 7) rfl dX5_firstPlace_6 rfl ?_
  refine sw_iald (j := k) (pc' := 8) rfl dX5_firstPlace_7 hM.sz rfl (by omega) (by decide +kernel) ?_
  refine sw_iconst (pc' := 9) (v := 1) rfl dX5_firstPlace_8 (by decide +kernel) ?_
  refine sw_isub (pc' := 10) rfl dX5_firstPlace_9 ?_
  refine sw_istore (pc' := 12) (lv' := [(4, _), (3, _), (0, _), (1, _), (2, _)]) rfl dX5_firstPlace_10 (by decide +kernel) rfl ?_
  have g := ql_firstPlace (d := d) (bc := bc) (bs := bs) (n := n) (x := x) hM hA hk hc (σ.2.1 k) (Nat.le_refl _)
  rw [Nat.sub_self] at g
  exact g
theorem ql_comeAt {h : AH} {d bc bs n : Nat} {ρ : Nat → Nat → Int32} {τ : Nat → Int32} {σ : CS} {th : Int32} {p : Nat} {x : Int32} (hM : MM h ρ τ σ th) (hA : AG ρ τ σ) {k : Nat} (hk : k < 11) (hc : σ.2.1 k < 12) (m : Nat) : ∀ g : AH, g (137 + k) = .inl (0, 12, .inl (mvN (ρ k) (p + m) (σ.2.1 k))) → (∀ i, i ≠ 137 + k → g i = h i) → p + m ≤ σ.2.1 k → SW SR0 MX5_comeAt d bc bs 8 [(4, .int (nI (p + m))), (0, .ref 135), (1, .int (nI k)), (2, .int (nI p)), (3, .int x)] [] g n (RP h n none (la2 σ k p x) th) := by
  obtain ⟨G0, hG0, eG0⟩ := hM.out
  induction m with
  | zero =>
    intro g hr hF hj
    refine sw_iload (pc' := 10) rfl dX5_comeAt_8 rfl ?_
    refine sw_iload_n (pc' := 11) rfl dX5_comeAt_10 rfl ?_
    refine sw_icmp_le (pc' := 14) (tgt := 40) rfl dX5_comeAt_11 (by decide +kernel) (fun c11 => ?_) (fun c11 => ?_)
    · refine sw_aload_n (pc' := 41) rfl dX5_comeAt_40 rfl ?_
      refine sw_getf (ci := 6) (k := 3) (pc' := 44) rfl dX5_comeAt_41 (by decide +kernel) w_1116 ((hF 135 (by omega)).trans hM.ob) rfl ?_
      refine sw_iload_n (pc' := 45) rfl dX5_comeAt_44 rfl ?_
      refine sw_aald (j := k) (pc' := 46) rfl dX5_comeAt_45 ((hF 136 (by omega)).trans hG0) (by decide +kernel) (by decide +kernel) rfl (by omega) (by decide +kernel) (eG0 k (by omega)) ?_
      refine sw_iload_n (pc' := 47) rfl dX5_comeAt_46 rfl ?_
      refine sw_iload_n (pc' := 48) rfl dX5_comeAt_47 rfl ?_
      refine sw_iast (j := p) (pc' := 49) rfl dX5_comeAt_48 hr (by show 100 ≤ _; omega) rfl (by omega) (by decide +kernel) ?_
      refine sw_nm (fun g1 eg1 => ?_)
      have zg1 := (congrFun eg1 (137 + k)).trans (up_s (h := g) (i := (137 + k)))
      refine sw_aload_n (pc' := 50) rfl dX5_comeAt_49 rfl ?_
      refine sw_getf (ci := 6) (k := 4) (pc' := 53) rfl dX5_comeAt_50 (by decide +kernel) w_1117 (((congrFun eg1 135).trans (up_n (by omega))).trans ((hF 135 (by omega)).trans hM.ob)) rfl ?_
      refine sw_iload_n (pc' := 54) rfl dX5_comeAt_53 rfl ?_
      refine sw_dup2 (pc' := 55) rfl dX5_comeAt_54 rfl rfl ?_
      refine sw_iald (j := k) (pc' := 56) rfl dX5_comeAt_55 (((congrFun eg1 148).trans (up_n (by omega))).trans ((hF 148 (by omega)).trans hM.sz)) rfl (by omega) (by decide +kernel) ?_
      refine sw_iconst (pc' := 57) (v := 1) rfl dX5_comeAt_56 (by decide +kernel) ?_
      refine sw_iadd (pc' := 58) rfl dX5_comeAt_57 ?_
      rw [show (nI (σ.2.1 k)) + 1 = nI (σ.2.1 k + 1) from nI_add _ _]
      refine sw_iast (j := k) (pc' := 59) rfl dX5_comeAt_58 (((congrFun eg1 148).trans (up_n (by omega))).trans ((hF 148 (by omega)).trans hM.sz)) (by decide +kernel) rfl (by omega) (by decide +kernel) ?_
      refine sw_nm (fun g2 eg2 => ?_)
      have zg2 := (congrFun eg2 148).trans (up_s (h := g1) (i := 148))
      refine sw_aload_n (pc' := 60) rfl dX5_comeAt_59 rfl ?_
      refine sw_getf (ci := 6) (k := 5) (pc' := 63) rfl dX5_comeAt_60 (by decide +kernel) w_1118 (((congrFun eg2 135).trans (up_n (by omega))).trans (((congrFun eg1 135).trans (up_n (by omega))).trans ((hF 135 (by omega)).trans hM.ob))) rfl ?_
      refine sw_iload_n (pc' := 64) rfl dX5_comeAt_63 rfl ?_
      refine sw_dup2 (pc' := 65) rfl dX5_comeAt_64 rfl rfl ?_
      refine sw_iald (j := k) (pc' := 66) rfl dX5_comeAt_65 (((congrFun eg2 149).trans (up_n (by omega))).trans (((congrFun eg1 149).trans (up_n (by omega))).trans ((hF 149 (by omega)).trans hM.sf))) rfl (by omega) (by decide +kernel) ?_
      refine sw_iconst (pc' := 67) (v := 1) rfl dX5_comeAt_66 (by decide +kernel) ?_
      refine sw_iadd (pc' := 68) rfl dX5_comeAt_67 ?_
      refine sw_iast (j := k) (pc' := 69) rfl dX5_comeAt_68 (((congrFun eg2 149).trans (up_n (by omega))).trans (((congrFun eg1 149).trans (up_n (by omega))).trans ((hF 149 (by omega)).trans hM.sf))) (by decide +kernel) rfl (by omega) (by decide +kernel) ?_
      refine sw_nm (fun g3 eg3 => ?_)
      have zg3 := (congrFun eg3 149).trans (up_s (h := g2) (i := 149))
      refine sw_ret (v := none) ⟨dX5_comeAt_69, rfl⟩ ?_
      have fin : ∀ i, i ≠ 137 + k → i ≠ 148 → i ≠ 149 → i ≠ 156 → g3 i = h i := fun i h1 h2 h3 _ => (congrFun eg3 i).trans ((up_n (by omega)).trans ((congrFun eg2 i).trans ((up_n (by omega)).trans ((congrFun eg1 i).trans ((up_n (by omega)).trans (hF i h1))))))
      exact ⟨rfl, rfl, ⟨_, _, hM.shU hk (c := σ.2.1 k + 1) (((congrFun eg3 (137 + k)).trans (up_n (by omega))).trans (((congrFun eg2 (137 + k)).trans (up_n (by omega))).trans zg1)) (((congrFun eg3 148).trans (up_n (by omega))).trans zg2) zg3 (by rw [up_id]; exact (((congrFun eg3 156).trans (up_n (by omega))).trans (((congrFun eg2 156).trans (up_n (by omega))).trans (((congrFun eg1 156).trans (up_n (by omega))).trans ((hF 156 (by omega)).trans hM.tu))))) fin, hA.shU (laN_at (by omega) (hA.1 k hk))⟩, FrM.of1 (fun i q => fin i (by omega) (by omega) (by omega) (by omega))⟩
    · exact absurd (Int32.le_refl _) c11
  | succ m ih =>
    intro g hr hF hj
    refine sw_iload (pc' := 10) rfl dX5_comeAt_8 rfl ?_
    refine sw_iload_n (pc' := 11) rfl dX5_comeAt_10 rfl ?_
    refine sw_icmp_le (pc' := 14) (tgt := 40) rfl dX5_comeAt_11 (by decide +kernel) (fun c11 => ?_) (fun c11 => ?_)
    · exact absurd c11 (nI_nle2 (by omega) (by omega))
    · refine sw_aload_n (pc' := 15) rfl dX5_comeAt_14 rfl ?_
      refine sw_getf (ci := 6) (k := 3) (pc' := 18) rfl dX5_comeAt_15 (by decide +kernel) w_1116 ((hF 135 (by omega)).trans hM.ob) rfl ?_
      refine sw_iload_n (pc' := 19) rfl dX5_comeAt_18 rfl ?_
      refine sw_aald (j := k) (pc' := 20) rfl dX5_comeAt_19 ((hF 136 (by omega)).trans hG0) (by decide +kernel) (by decide +kernel) rfl (by omega) (by decide +kernel) (eG0 k (by omega)) ?_
      refine sw_iload (pc' := 22) rfl dX5_comeAt_20 rfl ?_
      refine sw_aload_n (pc' := 23) rfl dX5_comeAt_22 rfl ?_
      refine sw_getf (ci := 6) (k := 3) (pc' := 26) rfl dX5_comeAt_23 (by decide +kernel) w_1116 ((hF 135 (by omega)).trans hM.ob) rfl ?_
      refine sw_iload_n (pc' := 27) rfl dX5_comeAt_26 rfl ?_
      refine sw_aald (j := k) (pc' := 28) rfl dX5_comeAt_27 ((hF 136 (by omega)).trans hG0) (by decide +kernel) (by decide +kernel) rfl (by omega) (by decide +kernel) (eG0 k (by omega)) ?_
      refine sw_iload (pc' := 30) rfl dX5_comeAt_28 rfl ?_
      refine sw_iconst (pc' := 31) (v := 1) rfl dX5_comeAt_30 (by decide +kernel) ?_
      refine sw_isub (pc' := 32) rfl dX5_comeAt_31 ?_
      refine sw_iald (j := p + m) (pc' := 33) rfl dX5_comeAt_32 hr (nI_pred (p + m)) (by omega) (by decide +kernel) ?_
      refine sw_iast (j := p + (m + 1)) (pc' := 34) rfl dX5_comeAt_33 hr (by show 100 ≤ _; omega) rfl (by omega) (by decide +kernel) ?_
      refine sw_nm (fun g4 eg4 => ?_)
      have zg4 := (congrFun eg4 (137 + k)).trans (up_s (h := g) (i := (137 + k)))
      refine sw_iinc (pc' := 37) (lv' := [(4, _), (0, _), (1, _), (2, _), (3, _)]) (v := nI (p + m)) rfl dX5_comeAt_34 rfl ((i_m1 _).trans (nI_pred (p + m))) (by decide +kernel) rfl ?_
      refine sw_goto (tgt := 8) dX5_comeAt_37 (by decide +kernel) ?_
      exact ih g4 ((show up (mvN (ρ k) (p + m + 1) (σ.2.1 k)) (p + m + 1) (mvN (ρ k) (p + m + 1) (σ.2.1 k) (p + m)) = mvN (ρ k) (p + m) (σ.2.1 k) from mvN_s hj) ▸ zg4) (fun i h1 => (congrFun eg4 i).trans ((up_n h1).trans (hF i h1))) (by omega)
theorem q_comeAt {h : AH} {d bc bs n : Nat} {ρ : Nat → Nat → Int32} {τ : Nat → Int32} {σ : CS} {th : Int32} {p : Nat} {x : Int32} (hM : MM h ρ τ σ th) (hA : AG ρ τ σ) {k : Nat} (hk : k < 11) (hc : σ.2.1 k < 12) (hp : p ≤ σ.2.1 k) : SM SR0 MX5_comeAt d bc bs [.ref 135, .int (nI k), .int (nI p), .int x] h n (RP h n none (la2 σ k p x) th) := by
  obtain ⟨G0, hG0, eG0⟩ := hM.out
  refine sm_of pn_OverwalksModel rfl (Nat.le_of_ble_eq_true rfl) ?_
  refine sw_aload_n (pc' := 1) rfl dX5_comeAt_0 rfl ?_
  refine sw_getf (ci := 6) (k := 4) (pc' := 4) rfl dX5_comeAt_1 (by decide +kernel) w_1117 hM.ob rfl ?_
  refine sw_iload_n (pc' := 5) rfl dX5_comeAt_4 rfl ?_
  refine sw_iald (j := k) (pc' := 6) rfl dX5_comeAt_5 hM.sz rfl (by omega) (by decide +kernel) ?_
  refine sw_istore (pc' := 8) (lv' := [(4, _), (0, _), (1, _), (2, _), (3, _)]) rfl dX5_comeAt_6 (by decide +kernel) rfl ?_
  have g := ql_comeAt (d := d) (bc := bc) (bs := bs) (n := n) (p := p) (x := x) hM hA hk hc (σ.2.1 k - p) h (by rw [show p + (σ.2.1 k - p) = σ.2.1 k by omega, mvN_c]; exact hM.row hk) (fun _ _ => rfl) (by omega)
  rw [show p + (σ.2.1 k - p) = σ.2.1 k by omega] at g
  exact g
theorem ql_goAt {h : AH} {d bc bs n : Nat} {ρ : Nat → Nat → Int32} {τ : Nat → Int32} {σ : CS} {th : Int32} {p e : Nat} (hM : MM h ρ τ σ th) (hA : AG ρ τ σ) {k : Nat} (hk : k < 11) (he : σ.2.1 k = e + 1) (hc : e < 12) (m : Nat) : ∀ (i : Nat) (g : AH), i + m = e → p ≤ i → g (137 + k) = .inl (0, 12, .inl (liN (ρ k) p i)) → g 148 = .inl (0, 11, .inl (up (fun j => nI (σ.2.1 j)) k (nI e))) → (∀ i, i ≠ 137 + k → i ≠ 148 → g i = h i) → SW SR0 MX5_goAt d bc bs 12 [(3, .int (nI i)), (0, .ref 135), (1, .int (nI k)), (2, .int (nI p))] [] g n (RP h n none (lf1 σ k p) th) := by
  obtain ⟨G0, hG0, eG0⟩ := hM.out
  induction m with
  | zero =>
    intro i g hi hj hr hs hF
    have hie : i = e := by omega
    subst hie
    refine sw_iload_n (pc' := 13) rfl dX5_goAt_12 rfl ?_
    refine sw_aload_n (pc' := 14) rfl dX5_goAt_13 rfl ?_
    refine sw_getf (ci := 6) (k := 4) (pc' := 17) rfl dX5_goAt_14 (by decide +kernel) w_1117 ((hF 135 (by omega) (by omega)).trans hM.ob) rfl ?_
    refine sw_iload_n (pc' := 18) rfl dX5_goAt_17 rfl ?_
    refine sw_iald (j := k) (pc' := 19) rfl dX5_goAt_18 hs rfl (by omega) (by decide +kernel) ?_
    rw [up_s]
    refine sw_icmp_ge (pc' := 22) (tgt := 46) rfl dX5_goAt_19 (by decide +kernel) (fun c19 => ?_) (fun c19 => ?_)
    · refine sw_aload_n (pc' := 47) rfl dX5_goAt_46 rfl ?_
      refine sw_getf (ci := 6) (k := 5) (pc' := 50) rfl dX5_goAt_47 (by decide +kernel) w_1118 ((hF 135 (by omega) (by omega)).trans hM.ob) rfl ?_
      refine sw_iload_n (pc' := 51) rfl dX5_goAt_50 rfl ?_
      refine sw_dup2 (pc' := 52) rfl dX5_goAt_51 rfl rfl ?_
      refine sw_iald (j := k) (pc' := 53) rfl dX5_goAt_52 ((hF 149 (by omega) (by omega)).trans hM.sf) rfl (by omega) (by decide +kernel) ?_
      refine sw_iconst (pc' := 54) (v := 1) rfl dX5_goAt_53 (by decide +kernel) ?_
      refine sw_iadd (pc' := 55) rfl dX5_goAt_54 ?_
      refine sw_iast (j := k) (pc' := 56) rfl dX5_goAt_55 ((hF 149 (by omega) (by omega)).trans hM.sf) (by decide +kernel) rfl (by omega) (by decide +kernel) ?_
      refine sw_nm (fun g1 eg1 => ?_)
      have zg1 := (congrFun eg1 149).trans (up_s (h := g) (i := 149))
      refine sw_ret (v := none) ⟨dX5_goAt_56, rfl⟩ ?_
      have fin : ∀ i, i ≠ 137 + k → i ≠ 148 → i ≠ 149 → i ≠ 156 → g1 i = h i := fun i h1 h2 h3 _ => (congrFun eg1 i).trans ((up_n (by omega)).trans (hF i h1 h2))
      rw [lf1, he, Nat.add_sub_cancel]
      exact ⟨rfl, rfl, ⟨_, _, hM.shU hk (((congrFun eg1 (137 + k)).trans (up_n (by omega))).trans hr) (((congrFun eg1 148).trans (up_n (by omega))).trans hs) zg1 (by rw [up_id]; exact (((congrFun eg1 156).trans (up_n (by omega))).trans ((hF 156 (by omega) (by omega)).trans hM.tu))) fin, hA.shU (liN_at (fun j hj => hA.1 k hk j (by omega)))⟩, FrM.of1 (fun i q => fin i (by omega) (by omega) (by omega) (by omega))⟩
    · exact absurd (Int32.le_refl _) c19
  | succ m ih =>
    intro i g hi hj hr hs hF
    refine sw_iload_n (pc' := 13) rfl dX5_goAt_12 rfl ?_
    refine sw_aload_n (pc' := 14) rfl dX5_goAt_13 rfl ?_
    refine sw_getf (ci := 6) (k := 4) (pc' := 17) rfl dX5_goAt_14 (by decide +kernel) w_1117 ((hF 135 (by omega) (by omega)).trans hM.ob) rfl ?_
    refine sw_iload_n (pc' := 18) rfl dX5_goAt_17 rfl ?_
    refine sw_iald (j := k) (pc' := 19) rfl dX5_goAt_18 hs rfl (by omega) (by decide +kernel) ?_
    rw [up_s]
    refine sw_icmp_ge (pc' := 22) (tgt := 46) rfl dX5_goAt_19 (by decide +kernel) (fun c19 => ?_) (fun c19 => ?_)
    · exact absurd c19 (nI_ge (by omega) (by omega))
    · refine sw_aload_n (pc' := 23) rfl dX5_goAt_22 rfl ?_
      refine sw_getf (ci := 6) (k := 3) (pc' := 26) rfl dX5_goAt_23 (by decide +kernel) w_1116 ((hF 135 (by omega) (by omega)).trans hM.ob) rfl ?_
      refine sw_iload_n (pc' := 27) rfl dX5_goAt_26 rfl ?_
      refine sw_aald (j := k) (pc' := 28) rfl dX5_goAt_27 ((hF 136 (by omega) (by omega)).trans hG0) (by decide +kernel) (by decide +kernel) rfl (by omega) (by decide +kernel) (eG0 k (by omega)) ?_
      refine sw_iload_n (pc' := 29) rfl dX5_goAt_28 rfl ?_
      refine sw_aload_n (pc' := 30) rfl dX5_goAt_29 rfl ?_
      refine sw_getf (ci := 6) (k := 3) (pc' := 33) rfl dX5_goAt_30 (by decide +kernel) w_1116 ((hF 135 (by omega) (by omega)).trans hM.ob) rfl ?_
      refine sw_iload_n (pc' := 34) rfl dX5_goAt_33 rfl ?_
      refine sw_aald (j := k) (pc' := 35) rfl dX5_goAt_34 ((hF 136 (by omega) (by omega)).trans hG0) (by decide +kernel) (by decide +kernel) rfl (by omega) (by decide +kernel) (eG0 k (by omega)) ?_
      refine sw_iload_n (pc' := 36) rfl dX5_goAt_35 rfl ?_
      refine sw_iconst (pc' := 37) (v := 1) rfl dX5_goAt_36 (by decide +kernel) ?_
      refine sw_iadd (pc' := 38) rfl dX5_goAt_37 ?_
      rw [show (nI i) + 1 = nI (i + 1) from nI_add _ _]
      refine sw_iald (j := i + 1) (pc' := 39) rfl dX5_goAt_38 hr rfl (by omega) (by decide +kernel) ?_
      refine sw_iast (j := i) (pc' := 40) rfl dX5_goAt_39 hr (by show 100 ≤ _; omega) rfl (by omega) (by decide +kernel) ?_
      refine sw_nm (fun g2 eg2 => ?_)
      have zg2 := (congrFun eg2 (137 + k)).trans (up_s (h := g) (i := (137 + k)))
      refine sw_iinc (pc' := 43) (lv' := [(3, _), (0, _), (1, _), (2, _)]) (v := nI (i + 1)) rfl dX5_goAt_40 rfl (nI_1 i) (by decide +kernel) rfl ?_
      refine sw_goto (tgt := 12) dX5_goAt_43 (by decide +kernel) ?_
      exact ih (i + 1) g2 (by omega) (by omega) ((liN_s hj) ▸ zg2) (((congrFun eg2 148).trans (up_n (by omega))).trans hs) (fun i h1 h2 => (congrFun eg2 i).trans ((up_n h1).trans (hF i h1 h2)))
theorem q_goAt {h : AH} {d bc bs n : Nat} {ρ : Nat → Nat → Int32} {τ : Nat → Int32} {σ : CS} {th : Int32} {p : Nat} (hM : MM h ρ τ σ th) (hA : AG ρ τ σ) {k : Nat} (hk : k < 11) (hc : σ.2.1 k ≤ 12) (hp : p < σ.2.1 k) : SM SR0 MX5_goAt d bc bs [.ref 135, .int (nI k), .int (nI p)] h n (RP h n none (lf1 σ k p) th) := by
  obtain ⟨G0, hG0, eG0⟩ := hM.out
  refine sm_of pn_OverwalksModel rfl (Nat.le_of_ble_eq_true rfl) ?_
  refine sw_aload_n (pc' := 1) rfl dX5_goAt_0 rfl ?_
  refine sw_getf (ci := 6) (k := 4) (pc' := 4) rfl dX5_goAt_1 (by decide +kernel) w_1117 hM.ob rfl ?_
  refine sw_iload_n (pc' := 5) rfl dX5_goAt_4 rfl ?_
  refine sw_dup2 (pc' := 6) rfl dX5_goAt_5 rfl rfl ?_
  refine sw_iald (j := k) (pc' := 7) rfl dX5_goAt_6 hM.sz rfl (by omega) (by decide +kernel) ?_
  refine sw_iconst (pc' := 8) (v := 1) rfl dX5_goAt_7 (by decide +kernel) ?_
  refine sw_isub (pc' := 9) rfl dX5_goAt_8 ?_
  refine sw_iast (j := k) (pc' := 10) rfl dX5_goAt_9 hM.sz (by decide +kernel) rfl (by omega) (by decide +kernel) ?_
  refine sw_nm (fun g3 eg3 => ?_)
  have zg3 := (congrFun eg3 148).trans (up_s (h := h) (i := 148))
  refine sw_iload_n (pc' := 11) rfl dX5_goAt_10 rfl ?_
  refine sw_istore_n (pc' := 12) (lv' := [(3, _), (0, _), (1, _), (2, _)]) rfl dX5_goAt_11 (by decide +kernel) rfl ?_
  obtain ⟨e, he⟩ : ∃ e, σ.2.1 k = e + 1 := ⟨σ.2.1 k - 1, by omega⟩
  have zs := zg3
  rw [he, nI_pred] at zs
  exact ql_goAt hM hA hk he (by omega) (e - p) p g3 (by omega) (Nat.le_refl _) (by rw [liN_j]; exact (((congrFun eg3 (137 + k)).trans (up_n (by omega))).trans (hM.row (k := k) (by omega)))) zs (fun i h1 h2 => (congrFun eg3 i).trans ((up_n h2).trans (rfl)))
theorem q_empty {h : AH} {d bc bs n : Nat} {ρ : Nat → Nat → Int32} {τ : Nat → Int32} {σ : CS} {th : Int32} (hM : MM h ρ τ σ th) (hA : AG ρ τ σ) {k : Nat} (hk : k < 11) (hc : σ.2.1 k ≤ 12) : SM SR0 MX5_empty d bc bs [.ref 135, .int (nI k)] h n (RP h n none (la1 σ k) th) := by
  obtain ⟨G0, hG0, eG0⟩ := hM.out
  refine sm_of pn_OverwalksModel rfl (Nat.le_of_ble_eq_true rfl) ?_
  refine sw_aload_n (pc' := 1) rfl dX5_empty_0 rfl ?_
  refine sw_getf (ci := 6) (k := 4) (pc' := 4) rfl dX5_empty_1 (by decide +kernel) w_1117 hM.ob rfl ?_
  refine sw_iload_n (pc' := 5) rfl dX5_empty_4 rfl ?_
  refine sw_iald (j := k) (pc' := 6) rfl dX5_empty_5 hM.sz rfl (by omega) (by decide +kernel) ?_
  refine sw_if_le (pc' := 9) (tgt := 19) rfl dX5_empty_6 (by decide +kernel) (fun c6 => ?_) (fun c6 => ?_)
  · refine sw_aload_n (pc' := 20) rfl dX5_empty_19 rfl ?_
    refine sw_getf (ci := 6) (k := 4) (pc' := 23) rfl dX5_empty_20 (by decide +kernel) w_1117 hM.ob rfl ?_
    refine sw_iload_n (pc' := 24) rfl dX5_empty_23 rfl ?_
    refine sw_iconst (pc' := 25) (v := 0) rfl dX5_empty_24 (by decide +kernel) ?_
    refine sw_iast (j := k) (pc' := 26) rfl dX5_empty_25 hM.sz (by decide +kernel) rfl (by omega) (by decide +kernel) ?_
    refine sw_nm (fun g1 eg1 => ?_)
    have zg1 := (congrFun eg1 148).trans (up_s (h := h) (i := 148))
    refine sw_ret (v := none) ⟨dX5_empty_26, rfl⟩ ?_
    have ec : σ.2.1 k = 0 := by have := fun q => (nI_gt0 (m := σ.2.1 k) (by omega)).mpr q; exact Nat.eq_zero_of_not_pos (fun q => absurd (Int32.not_le.mpr (this q)) (fun g => g c6))
    have fin : ∀ i, i ≠ 137 + k → i ≠ 148 → i ≠ 149 → i ≠ 156 → g1 i = h i := fun i h1 h2 h3 _ => (congrFun eg1 i).trans ((up_n (by omega)).trans (rfl))
    exact ⟨rfl, rfl, ⟨_, _, hM.shU hk (c := 0) (((congrFun eg1 (137 + k)).trans (up_n (by omega))).trans (hM.row (k := k) (by omega))) zg1 (by rw [if_pos ec, up_id]; exact (((congrFun eg1 149).trans (up_n (by omega))).trans hM.sf)) (by rw [up_id]; exact (((congrFun eg1 156).trans (up_n (by omega))).trans hM.tu)) fin, hA.shU (fun j hj => absurd hj (Nat.not_lt_zero _))⟩, FrM.of1 (fun i q => fin i (by omega) (by omega) (by omega) (by omega))⟩
  · refine sw_aload_n (pc' := 10) rfl dX5_empty_9 rfl ?_
    refine sw_getf (ci := 6) (k := 5) (pc' := 13) rfl dX5_empty_10 (by decide +kernel) w_1118 hM.ob rfl ?_
    refine sw_iload_n (pc' := 14) rfl dX5_empty_13 rfl ?_
    refine sw_dup2 (pc' := 15) rfl dX5_empty_14 rfl rfl ?_
    refine sw_iald (j := k) (pc' := 16) rfl dX5_empty_15 hM.sf rfl (by omega) (by decide +kernel) ?_
    refine sw_iconst (pc' := 17) (v := 1) rfl dX5_empty_16 (by decide +kernel) ?_
    refine sw_iadd (pc' := 18) rfl dX5_empty_17 ?_
    refine sw_iast (j := k) (pc' := 19) rfl dX5_empty_18 hM.sf (by decide +kernel) rfl (by omega) (by decide +kernel) ?_
    refine sw_nm (fun g2 eg2 => ?_)
    have zg2 := (congrFun eg2 149).trans (up_s (h := h) (i := 149))
    refine sw_aload_n (pc' := 20) rfl dX5_empty_19 rfl ?_
    refine sw_getf (ci := 6) (k := 4) (pc' := 23) rfl dX5_empty_20 (by decide +kernel) w_1117 (((congrFun eg2 135).trans (up_n (by omega))).trans hM.ob) rfl ?_
    refine sw_iload_n (pc' := 24) rfl dX5_empty_23 rfl ?_
    refine sw_iconst (pc' := 25) (v := 0) rfl dX5_empty_24 (by decide +kernel) ?_
    refine sw_iast (j := k) (pc' := 26) rfl dX5_empty_25 (((congrFun eg2 148).trans (up_n (by omega))).trans hM.sz) (by decide +kernel) rfl (by omega) (by decide +kernel) ?_
    refine sw_nm (fun g3 eg3 => ?_)
    have zg3 := (congrFun eg3 148).trans (up_s (h := g2) (i := 148))
    refine sw_ret (v := none) ⟨dX5_empty_26, rfl⟩ ?_
    have ec : ¬ σ.2.1 k = 0 := fun e => c6 (by rw [e]; decide)
    have fin : ∀ i, i ≠ 137 + k → i ≠ 148 → i ≠ 149 → i ≠ 156 → g3 i = h i := fun i h1 h2 h3 _ => (congrFun eg3 i).trans ((up_n (by omega)).trans ((congrFun eg2 i).trans ((up_n (by omega)).trans (rfl))))
    exact ⟨rfl, rfl, ⟨_, _, hM.shU hk (c := 0) (((congrFun eg3 (137 + k)).trans (up_n (by omega))).trans (((congrFun eg2 (137 + k)).trans (up_n (by omega))).trans (hM.row (k := k) (by omega)))) zg3 (by rw [if_neg ec]; exact (((congrFun eg3 149).trans (up_n (by omega))).trans zg2)) (by rw [up_id]; exact (((congrFun eg3 156).trans (up_n (by omega))).trans (((congrFun eg2 156).trans (up_n (by omega))).trans hM.tu))) fin, hA.shU (fun j hj => absurd hj (Nat.not_lt_zero _))⟩, FrM.of1 (fun i q => fin i (by omega) (by omega) (by omega) (by omega))⟩
theorem q_hasNothing {h : AH} {d bc bs n : Nat} {ρ : Nat → Nat → Int32} {τ : Nat → Int32} {σ : CS} {th : Int32} (hM : MM h ρ τ σ th) (hA : AG ρ τ σ) {k : Nat} (hk : k < 11) (hc : σ.2.1 k ≤ 12) (hd : 2 ≤ d) : SM SR0 MX5_hasNothing d bc bs [.ref 135, .int (nI k)] h n (Det (rI (bI (fpN (σ.1 k) 100 0 (σ.2.1 k)).isSome)) h n) := by
  obtain ⟨G0, hG0, eG0⟩ := hM.out
  refine sm_of pn_OverwalksModel rfl (Nat.le_of_ble_eq_true rfl) ?_
  refine sw_aload_n (pc' := 1) rfl dX5_hasNothing_0 rfl ?_
  refine sw_iload_n (pc' := 2) rfl dX5_hasNothing_1 rfl ?_
  refine sw_bipush (pc' := 4) (v := 100) rfl dX5_hasNothing_2 (by decide +kernel) ?_
  refine sw_V (M' := MX5_count) (d' := d - 1) (bc' := 0) (bs' := 0) (ci := 6) (as := [_, _]) dX5_hasNothing_4 w_1192 ok_X5_count (q_count hM hA hk hc (by omega)) hM.ob rfl (by omega) (Nat.le_of_ble_eq_true rfl) (Nat.zero_le _) (Nat.zero_le _) (fun E h' n' _ z => det_x z) (det_k ?_)
  refine sw_if_le (pc' := 10) (tgt := 14) rfl dX5_hasNothing_7 (by decide +kernel) (fun c7 => ?_) (fun c7 => ?_)
  · refine sw_iconst (pc' := 15) (v := 0) rfl dX5_hasNothing_14 (by decide +kernel) ?_
    refine sw_ret (v := some _) ⟨dX5_hasNothing_15, _, rfl, rfl⟩ ?_
    have hl := coN_le (f := σ.1 k) (x := 100) (m := σ.2.1 k) (j := 0)
    rw [← coN_s, decide_eq_false (fun g => absurd ((nI_gt0 (by omega)).mpr g) (Int32.not_lt.mpr c7))]
    exact ⟨rfl, rfl, rfl⟩
  · refine sw_iconst (pc' := 11) (v := 1) rfl dX5_hasNothing_10 (by decide +kernel) ?_
    refine sw_goto (tgt := 15) dX5_hasNothing_11 (by decide +kernel) ?_
    refine sw_ret (v := some _) ⟨dX5_hasNothing_15, _, rfl, rfl⟩ ?_
    have hl := coN_le (f := σ.1 k) (x := 100) (m := σ.2.1 k) (j := 0)
    rw [← coN_s, decide_eq_true ((nI_gt0 (by omega)).mp (Int32.not_le.mp c7))]
    exact ⟨rfl, rfl, rfl⟩
/-- no such place of row a -/
def npB (σ : CS) (a p : Int32) : Bool := nrB a || !inB p 0 (nI (σ.2.1 a.toNatClampNeg) - 1)
theorem q_isNoPlace {h : AH} {d bc bs n : Nat} {ρ : Nat → Nat → Int32} {τ : Nat → Int32} {σ : CS} {th : Int32} {a p : Int32} (hM : MM h ρ τ σ th) (hd : 3 ≤ d) : SM SR0 MX5_isNoPlace d bc bs [.ref 135, .int a, .int p] h n (Det (rI (bI (npB σ a p))) h n) := by
  obtain ⟨G0, hG0, eG0⟩ := hM.out
  refine sm_of pn_OverwalksModel rfl (Nat.le_of_ble_eq_true rfl) ?_
  refine sw_iload_n (pc' := 1) rfl dX5_isNoPlace_0 rfl ?_
  refine sw_S (M' := MX5_isNoRow) (d' := d - 1) (bc' := 0) (bs' := 0) (as := [_]) dX5_isNoPlace_1 w_1267 ok_X5_isNoRow (q_isNoRow (by omega)) (by omega) (Nat.le_of_ble_eq_true rfl) (Nat.zero_le _) (Nat.zero_le _) (fun E h' n' _ z => det_x z) (det_k ?_)
  refine sw_if_ne (pc' := 7) (tgt := 23) rfl dX5_isNoPlace_4 (by decide +kernel) (fun c4 => ?_) (fun c4 => ?_)
  · refine sw_iconst (pc' := 24) (v := 1) rfl dX5_isNoPlace_23 (by decide +kernel) ?_
    refine sw_goto (tgt := 28) dX5_isNoPlace_24 (by decide +kernel) ?_
    refine sw_ret (v := some _) ⟨dX5_isNoPlace_28, _, rfl, rfl⟩ ?_
    exact ⟨by rw [npB, bI_1 c4]; rfl, rfl, rfl⟩
  · obtain ⟨k, hk, ea⟩ : ∃ k, k < 11 ∧ a = nI k := by
      rcases idxN 11 (by decide +kernel) a with q | q
      · have g := bI_0 c4
        have g2 : inB a 0 10 = false := no_x (N := 10) (by decide +kernel) q
        rw [nrB, g2] at g
        cases g
      · exact q
    have e5 : a.toNatClampNeg = k := by rw [ea, nI_clamp (by omega)]
    refine sw_iload_n (pc' := 8) rfl dX5_isNoPlace_7 rfl ?_
    refine sw_iconst (pc' := 9) (v := 0) rfl dX5_isNoPlace_8 (by decide +kernel) ?_
    refine sw_aload_n (pc' := 10) rfl dX5_isNoPlace_9 rfl ?_
    refine sw_getf (ci := 6) (k := 4) (pc' := 13) rfl dX5_isNoPlace_10 (by decide +kernel) w_1117 hM.ob rfl ?_
    refine sw_iload_n (pc' := 14) rfl dX5_isNoPlace_13 rfl ?_
    refine sw_iald (j := k) (pc' := 15) rfl dX5_isNoPlace_14 hM.sz ea (by omega) (by decide +kernel) ?_
    refine sw_iconst (pc' := 16) (v := 1) rfl dX5_isNoPlace_15 (by decide +kernel) ?_
    refine sw_isub (pc' := 17) rfl dX5_isNoPlace_16 ?_
    refine sw_S (M' := MX5_isIn) (d' := d - 1) (bc' := 0) (bs' := 0) (as := [_, _, _]) dX5_isNoPlace_17 w_1168 ok_X5_isIn (q_isIn) (by omega) (Nat.le_of_ble_eq_true rfl) (Nat.zero_le _) (Nat.zero_le _) (fun E h' n' _ z => det_x z) (det_k ?_)
    refine sw_if_ne (pc' := 23) (tgt := 27) rfl dX5_isNoPlace_20 (by decide +kernel) (fun c20 => ?_) (fun c20 => ?_)
    · refine sw_iconst (pc' := 28) (v := 0) rfl dX5_isNoPlace_27 (by decide +kernel) ?_
      refine sw_ret (v := some _) ⟨dX5_isNoPlace_28, _, rfl, rfl⟩ ?_
      exact ⟨by rw [npB, bI_0 c4, e5, bI_1 c20]; rfl, rfl, rfl⟩
    · refine sw_iconst (pc' := 24) (v := 1) rfl dX5_isNoPlace_23 (by decide +kernel) ?_
      refine sw_goto (tgt := 28) dX5_isNoPlace_24 (by decide +kernel) ?_
      refine sw_ret (v := some _) ⟨dX5_isNoPlace_28, _, rfl, rfl⟩ ?_
      exact ⟨by rw [npB, bI_0 c4, e5, bI_0 c20]; rfl, rfl, rfl⟩
end
section
/-! 38.pure -/
/-! rows of things: rising, each once, what a place more or less makes of them -/
def srt (f : Nat → Int32) (c : Nat) : Prop := ∀ i j, i < j → j < c → f i < f j
def eis (f : Nat → Int32) (c : Nat) : Prop := ∀ i j, i < j → j < c → f i ≠ f j
theorem fpN_none {f : Nat → Int32} {x : Int32} {m : Nat} : ∀ {j : Nat}, fpN f x j m = none ↔ ∀ i, j ≤ i → i < j + m → f i ≠ x := by
  induction m with
  | zero => intro j; exact ⟨fun _ i h1 h2 => absurd h2 (by omega), fun _ => rfl⟩
  | succ m ih =>
    intro j
    unfold fpN
    by_cases e : f j = x
    · rw [if_pos e]
      exact ⟨(fun q => by cases q), fun q => absurd e (q j (Nat.le_refl _) (by omega))⟩
    · rw [if_neg e, ih]
      refine ⟨fun q i h1 h2 => ?_, fun q i h1 h2 => q i (by omega) (by omega)⟩
      by_cases g : i = j
      · rw [g]; exact e
      · exact q i (by omega) (by omega)
theorem fpN_isS {f : Nat → Int32} {x : Int32} {c : Nat} (h : (fpN f x 0 c).isSome = false) : ∀ i, i < c → f i ≠ x := by
  have : fpN f x 0 c = none := by
    cases e : fpN f x 0 c with
    | none => rfl
    | some j => rw [e] at h; cases h
  exact fun i hi => fpN_none.mp this i (Nat.zero_le _) (by omega)
theorem fpN_first {f : Nat → Int32} {x : Int32} {m : Nat} : ∀ {j i : Nat}, fpN f x j m = some i → ∀ q, j ≤ q → q < i → f q ≠ x := by
  induction m with
  | zero => intro j i h; cases h
  | succ m ih =>
    intro j i h
    unfold fpN at h
    by_cases e : f j = x
    · rw [if_pos e] at h; cases h; exact fun q h1 h2 => absurd h2 (by omega)
    · rw [if_neg e] at h
      intro q h1 h2
      by_cases g : q = j
      · rw [g]; exact e
      · exact ih h q (by omega) h2
theorem fpN_eq {f : Nat → Int32} {x : Int32} {m : Nat} : ∀ {j i : Nat}, j ≤ i → i < j + m → f i = x → (∀ q, j ≤ q → q < i → f q ≠ x) → fpN f x j m = some i := by
  induction m with
  | zero => intro j i h1 h2; omega
  | succ m ih =>
    intro j i h1 h2 h3 h4
    unfold fpN
    by_cases e : j = i
    · subst e; rw [if_pos h3]
    · rw [if_neg (h4 j (Nat.le_refl _) (by omega))]
      exact ih (by omega) (by omega) h3 (fun q g1 g2 => h4 q (by omega) g2)
theorem fpN_cg {f g : Nat → Int32} {x : Int32} {m : Nat} : ∀ {j : Nat}, (∀ i, j ≤ i → i < j + m → f i = g i) → fpN f x j m = fpN g x j m := by
  induction m with
  | zero => intro j _; rfl
  | succ m ih =>
    intro j h
    unfold fpN
    rw [h j (Nat.le_refl _) (by omega), ih (fun i h1 h2 => h i (by omega) (by omega))]
theorem coN_cg {f g : Nat → Int32} {x : Int32} {m : Nat} : ∀ {j : Nat}, (∀ i, j ≤ i → i < j + m → f i = g i) → coN f x j m = coN g x j m := by
  induction m with
  | zero => intro j _; rfl
  | succ m ih =>
    intro j h
    unfold coN
    rw [h j (Nat.le_refl _) (by omega), ih (fun i h1 h2 => h i (by omega) (by omega))]
theorem rpN_eq {f : Nat → Int32} {x : Int32} {p : Nat} {m : Nat} : ∀ {j : Nat}, j ≤ p → p ≤ j + m → (∀ i, j ≤ i → i < p → f i < x) → (∀ i, p ≤ i → i < j + m → ¬ f i < x) → rpN f x j m = p := by
  induction m with
  | zero => intro j h1 h2 _ _; unfold rpN; omega
  | succ m ih =>
    intro j h1 h2 h3 h4
    unfold rpN
    by_cases e : j = p
    · subst e; rw [if_neg (h4 j (Nat.le_refl _) (by omega))]
    · rw [if_pos (h3 j (Nat.le_refl _) (by omega))]
      exact ih (by omega) (by omega) (fun i g1 g2 => h3 i (by omega) g2) (fun i g1 g2 => h4 i g1 (by omega))
/-- what lies ahead of the rising place is less; if it rises, what lies behind is not -/
theorem rpN_lt {f : Nat → Int32} {x : Int32} {m : Nat} : ∀ {j : Nat}, ∀ i, j ≤ i → i < rpN f x j m → f i < x := by
  induction m with
  | zero => intro j i h1 h2; unfold rpN at h2; omega
  | succ m ih =>
    intro j i h1 h2
    unfold rpN at h2
    by_cases e : f j < x
    · rw [if_pos e] at h2
      by_cases g : i = j
      · rw [g]; exact e
      · exact ih i (by omega) h2
    · rw [if_neg e] at h2; omega
theorem rpN_at_ge {f : Nat → Int32} {x : Int32} {m : Nat} : ∀ {j : Nat}, rpN f x j m < j + m → ¬ f (rpN f x j m) < x := by
  induction m with
  | zero => intro j h; unfold rpN at h; omega
  | succ m ih =>
    intro j h
    unfold rpN at h ⊢
    by_cases e : f j < x
    · rw [if_pos e] at h ⊢
      exact ih (by omega)
    · rw [if_neg e]; exact e
theorem rpN_ge {f : Nat → Int32} {x : Int32} {c : Nat} (hs : srt f c) (hx : ∀ i, i < c → f i ≠ x) : ∀ i, rpN f x 0 c ≤ i → i < c → x < f i := by
  intro i h1 h2
  have h0 : ¬ f (rpN f x 0 c) < x := rpN_at_ge (by omega)
  have h3 : x < f (rpN f x 0 c) := Int32.lt_of_le_of_ne (Int32.not_lt.mp h0) (fun e => hx _ (by omega) e.symm)
  by_cases e : i = rpN f x 0 c
  · rw [e]; exact h3
  · exact Int32.lt_trans h3 (hs _ _ (by omega) h2)
theorem laN_lt {f : Nat → Int32} {p c i : Nat} {x : Int32} (h : i < p) : laN f p x c i = f i := by
  unfold laN
  rw [up_n (by omega)]
  unfold mvN
  rw [if_neg (by omega)]
theorem laN_p {f : Nat → Int32} {p c : Nat} {x : Int32} : laN f p x c p = x := up_s
theorem laN_gt {f : Nat → Int32} {p c i : Nat} {x : Int32} (h : p < i) (h2 : i ≤ c) : laN f p x c i = f (i - 1) := by
  unfold laN
  rw [up_n (by omega)]
  unfold mvN
  rw [if_pos ⟨h, h2⟩]
/-- each place of a row with one more: one of the old, or the new one -/
theorem laN_cs {f : Nat → Int32} {p c : Nat} {x : Int32} {Q : Int32 → Prop} (hp : p ≤ c) (hx : Q x) (hf : ∀ j, j < c → Q (f j)) : ∀ j, j < c + 1 → Q (laN f p x c j) := by
  intro j hj
  by_cases e : j < p
  · rw [laN_lt e]; exact hf j (by omega)
  · by_cases g : j = p
    · rw [g, laN_p]; exact hx
    · rw [laN_gt (by omega) (by omega)]; exact hf _ (by omega)
theorem liN_cs {f : Nat → Int32} {p c : Nat} {Q : Int32 → Prop} (hf : ∀ j, j < c + 1 → Q (f j)) : ∀ j, j < c → Q (liN f p c j) := by
  intro j hj
  unfold liN
  split
  · exact hf _ (by omega)
  · exact hf _ (by omega)
theorem srt_la {f : Nat → Int32} {p c : Nat} {x : Int32} (hs : srt f c) (hp : p ≤ c) (h1 : ∀ i, i < p → f i < x) (h2 : ∀ i, p ≤ i → i < c → x < f i) : srt (laN f p x c) (c + 1) := by
  intro i j hij hj
  by_cases a : j < p
  · rw [laN_lt a, laN_lt (by omega)]
    exact hs _ _ hij (by omega)
  · by_cases b : j = p
    · rw [b, laN_p, laN_lt (by omega)]
      exact h1 i (by omega)
    · rw [laN_gt (p := p) (i := j) (by omega) (by omega)]
      by_cases a2 : i < p
      · rw [laN_lt a2]
        exact Int32.lt_trans (h1 i a2) (h2 _ (by omega) (by omega))
      · by_cases b2 : i = p
        · rw [b2, laN_p]
          exact h2 _ (by omega) (by omega)
        · rw [laN_gt (p := p) (i := i) (by omega) (by omega)]
          exact hs _ _ (by omega) (by omega)
theorem eis_la {f : Nat → Int32} {p c : Nat} {x : Int32} (hs : eis f c) (hp : p ≤ c) (h1 : ∀ i, i < c → f i ≠ x) : eis (laN f p x c) (c + 1) := by
  intro i j hij hj
  by_cases a : j < p
  · rw [laN_lt a, laN_lt (by omega)]
    exact hs _ _ hij (by omega)
  · by_cases b : j = p
    · rw [b, laN_p, laN_lt (by omega)]
      exact h1 i (by omega)
    · rw [laN_gt (p := p) (i := j) (by omega) (by omega)]
      by_cases a2 : i < p
      · rw [laN_lt a2]
        exact hs _ _ (by omega) (by omega)
      · by_cases b2 : i = p
        · rw [b2, laN_p]
          exact fun e => h1 _ (by omega) e.symm
        · rw [laN_gt (p := p) (i := i) (by omega) (by omega)]
          exact hs _ _ (by omega) (by omega)
theorem liN_ix {f : Nat → Int32} {p c i : Nat} (h : i < c) : liN f p c i = f (if p ≤ i then i + 1 else i) := by
  unfold liN
  by_cases e : p ≤ i
  · rw [if_pos ⟨e, h⟩, if_pos e]
  · rw [if_neg (fun q => e q.1), if_neg e]
theorem srt_li {f : Nat → Int32} {p c : Nat} (hs : srt f (c + 1)) : srt (liN f p c) c := by
  intro i j hij hj
  rw [liN_ix hj, liN_ix (by omega)]
  refine hs _ _ ?_ ?_
  · split <;> split <;> omega
  · split <;> omega
theorem eis_li {f : Nat → Int32} {p c : Nat} (hs : eis f (c + 1)) : eis (liN f p c) c := by
  intro i j hij hj
  rw [liN_ix hj, liN_ix (by omega)]
  refine hs _ _ ?_ ?_
  · split <;> split <;> omega
  · split <;> omega
theorem srt_cg {f g : Nat → Int32} {c : Nat} (h : ∀ j, j < c → g j = f j) (hs : srt f c) : srt g c := fun i j h1 h2 => by rw [h i (by omega), h j h2]; exact hs i j h1 h2
theorem srt_riB {f : Nat → Int32} {m : Nat} : ∀ {j : Nat}, 1 ≤ j → srt f (j + m) → riB f j m = true := by
  induction m with
  | zero => intro j _ _; rfl
  | succ m ih =>
    intro j hj h
    unfold riB
    rw [decide_eq_true (h (j - 1) j (by omega) (by omega)), Bool.true_and]
    exact ih (by omega) (by rw [show j + 1 + m = j + (m + 1) by omega]; exact h)
theorem eis_eoB {f : Nat → Int32} {c : Nat} (h : eis f c) {m : Nat} : ∀ {j : Nat}, j + m ≤ c → eoB f c j m = true := by
  induction m with
  | zero => intro j _; rfl
  | succ m ih =>
    intro j hj
    unfold eoB
    rw [decide_eq_true (fpN_eq (f := f) (x := f j) (j := 0) (m := c) (i := j) (Nat.zero_le _) (by omega) rfl (fun q _ g => h q j g (by omega))), Bool.true_and]
    exact ih (by omega)
theorem srt_riB0 {f : Nat → Int32} {c : Nat} (h : srt f c) : riB f 1 (c - 1) = true := by
  by_cases e : c = 0
  · subst e; rfl
  · exact srt_riB (Nat.le_refl _) (by rw [show 1 + (c - 1) = c by omega]; exact h)
/-- PUT keeps what rises rising, and each once -/
theorem ldU_srt {σ : CS} {k : Nat} {x : Int32} (hk : k = 3) (hs : srt (σ.1 k) (σ.2.1 k)) : srt ((ldU σ k x).1 k) ((ldU σ k x).2.1 k) := by
  subst hk
  unfold ldU
  by_cases e : ldY (σ.1 3) (σ.2.1 3) (kdO 3) x = true
  · rw [if_pos e]
    show srt (up σ.1 3 _ 3) (up σ.2.1 3 _ 3)
    rw [up_s, up_s]
    have e1 : ldP (σ.1 3) (σ.2.1 3) (kdO 3) x = rpN (σ.1 3) x 0 (σ.2.1 3) := rfl
    have e2 : (fpN (σ.1 3) x 0 (σ.2.1 3)).isSome = false := by
      cases g : (fpN (σ.1 3) x 0 (σ.2.1 3)).isSome with
      | false => rfl
      | true => exact absurd e (by rw [ldY, g]; decide)
    rw [e1]
    exact srt_la hs (by have := @rpN_at (σ.1 3) x (σ.2.1 3) 0; omega) (fun i hi => rpN_lt i (Nat.zero_le _) hi) (rpN_ge hs (fpN_isS e2))
  · rw [if_neg e]
    exact hs
theorem ldU_o {σ : CS} {k j : Nat} {x : Int32} (h : j ≠ k) : (ldU σ k x).1 j = σ.1 j ∧ (ldU σ k x).2.1 j = σ.2.1 j ∧ (ldU σ k x).2.2.1 j = σ.2.2.1 j := by
  unfold ldU
  split
  · exact ⟨up_n h, up_n h, up_n h⟩
  · exact ⟨rfl, rfl, rfl⟩
/-- m things of g are PUT on SHELF k, from the j-th on -/
def caM (k : Nat) (g : Nat → Int32) : Nat → Nat → Bool → CS → Bool × CS
  | _, 0, w, σ => (w, σ)
  | j, m + 1, w, σ => caM k g (j + 1) m (w || ldY (σ.1 k) (σ.2.1 k) (kdO k) (g j)) (ldU σ k (g j))
theorem caM_cg {k : Nat} {f g : Nat → Int32} {m : Nat} : ∀ {j : Nat} {w : Bool} {σ : CS}, (∀ i, j ≤ i → i < j + m → f i = g i) → caM k f j m w σ = caM k g j m w σ := by
  induction m with
  | zero => intro j w σ _; rfl
  | succ m ih =>
    intro j w σ h
    unfold caM
    rw [h j (Nat.le_refl _) (by omega)]
    exact ih (fun i h1 h2 => h i (by omega) (by omega))
theorem caM_pa {k : Nat} {a b c e : Int32} {m : Nat} : ∀ {j : Nat} {w : Bool} {σ : CS}, paM k a b c e j m w σ = caM k (fun i => o4 (nI i) a b c e) j m w σ := by
  induction m with
  | zero => intro j w σ; rfl
  | succ m ih => intro j w σ; unfold paM caM; exact ih
theorem ldU_c2 {σ : CS} {k : Nat} {x : Int32} : (ldU σ k x).2.1 k ≤ σ.2.1 k + 1 := by
  unfold ldU
  split
  · show up σ.2.1 k _ k ≤ _
    rw [up_s]
    omega
  · omega
theorem bI_or {a b : Bool} : bI a ||| bI b = bI (a || b) := by cases a <;> cases b <;> decide
theorem bI_and {a b : Bool} : bI a &&& bI b = bI (a && b) := by cases a <;> cases b <;> decide
end
section
/-! 39.model -/
/-! the model: things come and go, walks -/
theorem kdO_3 {k : Nat} (hk : k < 11) : kdO k = 2 → k = 3 := by revert k; decide
theorem srt_up {f : Nat → Int32} {c m : Nat} {x : Int32} (hs : srt f c) (hm : m < c) (hl : f m < x) : ∀ i, i < m + 1 → f i < x := by
  intro i hi
  by_cases e : i = m
  · rw [e]; exact hl
  · exact Int32.lt_trans (hs i m (by omega) hm) hl
theorem kE_n {k : Nat} (hk : k < 11) (h3 : k ≠ 3) (h4 : k ≠ 4) : kE (kdO k) = false := by revert k; decide
/-- what is not there comes -/
theorem ldU_p {σ : CS} {k p : Nat} {x : Int32} (e : ldY (σ.1 k) (σ.2.1 k) (kdO k) x = true) (hp : ldP (σ.1 k) (σ.2.1 k) (kdO k) x = p) : ldU σ k x = la2 σ k p x := by
  unfold ldU la2
  rw [if_pos e, hp]
theorem ldU_n {σ : CS} {k : Nat} {x : Int32} (e : ldY (σ.1 k) (σ.2.1 k) (kdO k) x = false) : ldU σ k x = σ := by
  unfold ldU
  rw [if_neg (by rw [e]; decide)]
theorem fp_of_co {f : Nat → Int32} {x : Int32} {c : Nat} (h : ¬ 0 < coN f x 0 c) : (fpN f x 0 c).isSome = false := by rw [← coN_s]; exact decide_eq_false h
theorem fp_of_co1 {f : Nat → Int32} {x : Int32} {c : Nat} (h : 0 < coN f x 0 c) : (fpN f x 0 c).isSome = true := by rw [← coN_s]; exact decide_eq_true h
theorem hmB_m {c : Nat} {s gi tk ss : Int32} (h : s = ss) : hmB c s gi tk ss = decide (gi - tk < nI c) := by
  unfold hmB
  rw [show decide (s ≠ ss) = false from decide_eq_false (fun q => q h)]
  rfl
theorem wHM_m {σ : CS} {k : Nat} (h : wSt σ k = false) : wHM σ k = decide (wAh σ k < nI (σ.2.1 (wO σ k))) := hmB_m (by
  have := of_decide_eq_false h
  exact Decidable.of_not_not this)
theorem gvU_1 {σ : CS} {k : Nat} : gvU σ k 1 = wU σ k ((σ.2.2.2.2.1 k).1, wO σ k, (σ.2.2.2.2.1 k).2.2.1, (σ.2.2.2.2.1 k).2.2.2.1 + 1, (σ.2.2.2.2.1 k).2.2.2.2.1, (σ.2.2.2.2.1 k).2.2.2.2.2.1, σ.2.2.2.1 (wO σ k), true) := rfl
theorem wU_id {σ : CS} {k : Nat} : wU σ k (σ.2.2.2.2.1 k) = σ := by
  unfold wU
  rw [up_id]
theorem gvU_0 {σ : CS} {k : Nat} : gvU σ k 0 = σ := by
  have e : gvU σ k 0 = wU σ k ((σ.2.2.2.2.1 k).1, wO σ k, (σ.2.2.2.2.1 k).2.2.1, (σ.2.2.2.2.1 k).2.2.2.1 + 0, (σ.2.2.2.2.1 k).2.2.2.2.1, (σ.2.2.2.2.1 k).2.2.2.2.2.1, (σ.2.2.2.2.1 k).2.2.2.2.2.2.1, (σ.2.2.2.2.1 k).2.2.2.2.2.2.2) := rfl
  rw [e, Int32.add_zero]
  exact wU_id
theorem wU_wU {σ : CS} {k : Nat} {a b : WT} : wU (wU σ k a) k b = wU σ k b := by
  unfold wU
  rw [up2]
theorem wk_wU {σ : CS} {k : Nat} {a : WT} : (wU σ k a).2.2.2.2.1 k = a := up_s
theorem gvU_s {σ : CS} {k m : Nat} : gvU (gvU σ k m) k 1 = gvU σ k (m + 1) := by
  have e : (gvU σ k m).2.2.2.2.1 k = ((σ.2.2.2.2.1 k).1, wO σ k, (σ.2.2.2.2.1 k).2.2.1, (σ.2.2.2.2.1 k).2.2.2.1 + nI m, (σ.2.2.2.2.1 k).2.2.2.2.1, (σ.2.2.2.2.1 k).2.2.2.2.2.1, if m = 0 then (σ.2.2.2.2.1 k).2.2.2.2.2.2.1 else σ.2.2.2.1 (wO σ k), if m = 0 then (σ.2.2.2.2.1 k).2.2.2.2.2.2.2 else true) := wk_wU
  rw [gvU_1]
  have e2 : wO (gvU σ k m) k = wO σ k := by unfold wO; rw [e]; rfl
  rw [e2, e]
  unfold gvU
  rw [wU_wU, if_neg (Nat.succ_ne_zero m), if_neg (Nat.succ_ne_zero m)]
  rw [show (σ.2.2.2.2.1 k).2.2.2.1 + nI m + 1 = (σ.2.2.2.2.1 k).2.2.2.1 + nI (m + 1) from by rw [Int32.add_assoc, nI_1]]
  rfl
theorem wAh_g {σ : CS} {k m A : Nat} (h : wAh σ k = nI A) : wAh (gvU σ k m) k = nI (A + m) := by
  have e : (gvU σ k m).2.2.2.2.1 k = ((σ.2.2.2.2.1 k).1, wO σ k, (σ.2.2.2.2.1 k).2.2.1, (σ.2.2.2.2.1 k).2.2.2.1 + nI m, (σ.2.2.2.2.1 k).2.2.2.2.1, (σ.2.2.2.2.1 k).2.2.2.2.2.1, if m = 0 then (σ.2.2.2.2.1 k).2.2.2.2.2.2.1 else σ.2.2.2.1 (wO σ k), if m = 0 then (σ.2.2.2.2.1 k).2.2.2.2.2.2.2 else true) := wk_wU
  unfold wAh at h ⊢
  rw [e]
  show (σ.2.2.2.2.1 k).2.2.2.1 + nI m - (σ.2.2.2.2.1 k).2.2.2.2.1 = _
  rw [Int32.sub_eq_add_neg, Int32.add_assoc, Int32.add_comm (nI m), ← Int32.add_assoc, ← Int32.sub_eq_add_neg, h, nI_add]
theorem wO_g {σ : CS} {k m : Nat} : wO (gvU σ k m) k = wO σ k := by
  unfold wO gvU wU
  show (up σ.2.2.2.2.1 k _ k).2.1 = _
  rw [up_s]
  rfl
theorem wMk_g {σ : CS} {k m : Nat} : ((gvU σ k m).2.2.2.2.1 k).1 = (σ.2.2.2.2.1 k).1 := by
  unfold gvU wU
  show (up σ.2.2.2.2.1 k _ k).1 = _
  rw [up_s]
theorem wSt_g {σ : CS} {k m : Nat} : wSt (gvU σ k m) k = wSt σ k := by
  unfold wSt
  rw [wO_g]
  have e : ((gvU σ k m).2.2.2.2.1 k).2.2.2.2.2.1 = (σ.2.2.2.2.1 k).2.2.2.2.2.1 := by
    unfold gvU wU
    show (up σ.2.2.2.2.1 k _ k).2.2.2.2.2.1 = _
    rw [up_s]
  rw [e]
  rfl
/-- the rest that a WALK has: so many steps are made -/
theorem wGu_eq {σ : CS} {k A m : Nat} (hs : wSt σ k = false) (hc : σ.2.1 (wO σ k) ≤ 12) (hA : wAh σ k = nI A) (hAc : A ≤ σ.2.1 (wO σ k)) (hm : σ.2.1 (wO σ k) - A ≤ m) : wGu σ k m = σ.2.1 (wO σ k) - A := by
  have e0 : σ.2.2.1 (wO σ k) = (σ.2.2.2.2.1 k).2.2.2.2.2.1 := Decidable.of_not_not (of_decide_eq_false hs)
  unfold wGu
  have gen : ∀ (m A : Nat) (gi : Int32), gi - (σ.2.2.2.2.1 k).2.2.2.2.1 = nI A → A ≤ σ.2.1 (wO σ k) → σ.2.1 (wO σ k) - A ≤ m → guN (σ.2.1 (wO σ k)) (σ.2.2.1 (wO σ k)) (σ.2.2.2.2.1 k).2.2.2.2.1 (σ.2.2.2.2.1 k).2.2.2.2.2.1 gi m = σ.2.1 (wO σ k) - A := by
    intro m
    induction m with
    | zero => intro A gi _ h2 h3; unfold guN; omega
    | succ m ih =>
      intro A gi h1 h2 h3
      unfold guN
      rw [hmB_m e0, h1]
      by_cases q : A < σ.2.1 (wO σ k)
      · rw [if_pos (decide_eq_true (nI_lt q (by omega)))]
        have h4 : gi + 1 - (σ.2.2.2.2.1 k).2.2.2.2.1 = nI (A + 1) := by
          rw [Int32.sub_eq_add_neg, Int32.add_assoc, Int32.add_comm 1, ← Int32.add_assoc, ← Int32.sub_eq_add_neg, h1, nI_1]
        rw [ih (A + 1) (gi + 1) h4 (by omega) (by omega)]
        omega
      · rw [if_neg (by rw [decide_eq_false (nI_nlt (by omega) (by omega))]; decide)]
        omega
  exact gen m A _ hA hAc hm
theorem wGu_c {σ : CS} {k A : Nat} (hs : wSt σ k = false) (hc : σ.2.1 (wO σ k) ≤ 12) (hA : wAh σ k = nI A) (hAc : A ≤ σ.2.1 (wO σ k)) {m : Nat} : wGu σ k m = if σ.2.1 (wO σ k) - A ≤ m then σ.2.1 (wO σ k) - A else m := by
  by_cases q : σ.2.1 (wO σ k) - A ≤ m
  · rw [if_pos q, wGu_eq hs hc hA hAc q]
  · rw [if_neg q]
    have e0 : σ.2.2.1 (wO σ k) = (σ.2.2.2.2.1 k).2.2.2.2.2.1 := Decidable.of_not_not (of_decide_eq_false hs)
    unfold wGu
    have gen : ∀ (m A : Nat) (gi : Int32), gi - (σ.2.2.2.2.1 k).2.2.2.2.1 = nI A → A + m ≤ σ.2.1 (wO σ k) → guN (σ.2.1 (wO σ k)) (σ.2.2.1 (wO σ k)) (σ.2.2.2.2.1 k).2.2.2.2.1 (σ.2.2.2.2.1 k).2.2.2.2.2.1 gi m = m := by
      intro m
      induction m with
      | zero => intro A gi _ h2; unfold guN; rfl
      | succ m ih =>
        intro A gi h1 h2
        unfold guN
        rw [hmB_m e0, h1, if_pos (decide_eq_true (nI_lt (by omega) (by omega)))]
        have h4 : gi + 1 - (σ.2.2.2.2.1 k).2.2.2.2.1 = nI (A + 1) := by
          rw [Int32.sub_eq_add_neg, Int32.add_assoc, Int32.add_comm 1, ← Int32.add_assoc, ← Int32.sub_eq_add_neg, h1, nI_1]
        rw [ih (A + 1) (gi + 1) h4 (by omega)]
    exact gen m A _ hA (by omega)
theorem q_leave {h : AH} {d bc bs n : Nat} {ρ : Nat → Nat → Int32} {τ : Nat → Int32} {σ : CS} {th : Int32} {p : Nat} (hM : MM h ρ τ σ th) (hA : AG ρ τ σ) {k : Nat} (hk : k < 11) (hc : σ.2.1 k ≤ 12) (h5 : ¬ kdO k = 5 → p < σ.2.1 k) (h6 : kdO k = 5 → (σ.2.1 6 ≤ 12 ∧ p < σ.2.1 6 ∧ σ.2.1 7 ≤ 12 ∧ p < σ.2.1 7)) (hd : 1 ≤ d) : SM SR0 MX5_leave d bc bs [.ref 135, .int (nI k), .int (nI p)] h n (RP h n none (liU σ k p) th) := by
  obtain ⟨G0, hG0, eG0⟩ := hM.out
  refine sm_of pn_OverwalksModel rfl (Nat.le_of_ble_eq_true rfl) ?_
  refine sw_iload_n (pc' := 1) rfl dX5_leave_0 rfl ?_
  refine sw_S (M' := MX5_isTable) (d' := d - 1) (bc' := 0) (bs' := 0) (as := [_]) dX5_leave_1 w_1178 ok_X5_isTable (q_isTable) (by omega) (Nat.le_of_ble_eq_true rfl) (Nat.zero_le _) (Nat.zero_le _) (fun E h' n' _ z => det_x z) (det_k ?_)
  rw [tb_k hk]
  refine sw_if_eq (pc' := 7) (tgt := 24) rfl dX5_leave_4 (by decide +kernel) (fun c4 => ?_) (fun c4 => ?_)
  · refine sw_aload_n (pc' := 25) rfl dX5_leave_24 rfl ?_
    refine sw_iload_n (pc' := 26) rfl dX5_leave_25 rfl ?_
    refine sw_iload_n (pc' := 27) rfl dX5_leave_26 rfl ?_
    refine sw_V (M' := MX5_goAt) (d' := d - 1) (bc' := 0) (bs' := 0) (ci := 6) (as := [_, _]) dX5_leave_27 w_1227 ok_X5_goAt (q_goAt hM hA hk hc (h5 (of_decide_eq_false (bI_0 c4)))) hM.ob rfl (by omega) (Nat.le_of_ble_eq_true rfl) (Nat.zero_le _) (Nat.zero_le _) (fun E h' n' _ z => rp_x z) (rp_k (fun pc pcρ pcτ pcM pcA pcF => ?_))
    obtain ⟨Gpc, hGpc, eGpc⟩ := pcM.out
    refine sw_ret (v := none) ⟨dX5_leave_30, rfl⟩ ?_
    rw [liU, if_neg (of_decide_eq_false (bI_0 c4))]
    exact ⟨rfl, rfl, ⟨_, _, pcM, pcA⟩, pcF⟩
  · refine sw_aload_n (pc' := 8) rfl dX5_leave_7 rfl ?_
    refine sw_bipush (pc' := 10) (v := 6) rfl dX5_leave_8 (by decide +kernel) ?_
    refine sw_iload_n (pc' := 11) rfl dX5_leave_10 rfl ?_
    refine sw_V (M' := MX5_goAt) (d' := d - 1) (bc' := 0) (bs' := 0) (ci := 6) (as := [_, _]) dX5_leave_11 w_1227 ok_X5_goAt (q_goAt (k := 6) hM hA (by omega) (h6 (of_decide_eq_true (bI_1 c4))).1 (h6 (of_decide_eq_true (bI_1 c4))).2.1) hM.ob rfl (by omega) (Nat.le_of_ble_eq_true rfl) (Nat.zero_le _) (Nat.zero_le _) (fun E h' n' _ z => rp_x z) (rp_k (fun pa paρ paτ paM paA paF => ?_))
    obtain ⟨Gpa, hGpa, eGpa⟩ := paM.out
    refine sw_aload_n (pc' := 15) rfl dX5_leave_14 rfl ?_
    refine sw_bipush (pc' := 17) (v := 7) rfl dX5_leave_15 (by decide +kernel) ?_
    refine sw_iload_n (pc' := 18) rfl dX5_leave_17 rfl ?_
    refine sw_V (M' := MX5_goAt) (d' := d - 1) (bc' := 0) (bs' := 0) (ci := 6) (as := [_, _]) dX5_leave_18 w_1227 ok_X5_goAt (q_goAt (k := 7) (p := p) paM paA (by omega) (h6 (of_decide_eq_true (bI_1 c4))).2.2.1 (h6 (of_decide_eq_true (bI_1 c4))).2.2.2) paM.ob rfl (by omega) (Nat.le_of_ble_eq_true rfl) (Nat.zero_le _) (Nat.zero_le _) (fun E h' n' _ z => rp_x z) (rp_k (fun pb pbρ pbτ pbM pbA pbF => ?_))
    obtain ⟨Gpb, hGpb, eGpb⟩ := pbM.out
    refine sw_goto (tgt := 30) dX5_leave_21 (by decide +kernel) ?_
    refine sw_ret (v := none) ⟨dX5_leave_30, rfl⟩ ?_
    rw [liU, if_pos (of_decide_eq_true (bI_1 c4))]
    exact ⟨rfl, rfl, ⟨_, _, pbM, pbA⟩, paF.tr pbF (Nat.le_refl _)⟩
theorem ql_come {h : AH} {d bc bs n : Nat} {ρ : Nat → Nat → Int32} {τ : Nat → Int32} {σ : CS} {th : Int32} {x : Int32} (hM : MM h ρ τ σ th) (hA : AG ρ τ σ) (hs : srt (σ.1 3) (σ.2.1 3)) (hx : ∀ i, i < σ.2.1 3 → σ.1 3 i ≠ x) (hc : σ.2.1 3 < 12) (hd : 1 ≤ d) (m : Nat) : m ≤ σ.2.1 3 → (∀ i, m ≤ i → i < σ.2.1 3 → ¬ σ.1 3 i < x) → SW SR0 MX5_come d bc bs 28 [(3, .int (nI m)), (0, .ref 135), (1, .int (nI 3)), (2, .int x)] [] h n (RP h n (some (.int 1)) (la2 σ 3 (rpN (σ.1 3) x 0 (σ.2.1 3)) x) th) := by
  obtain ⟨G0, hG0, eG0⟩ := hM.out
  have fn : ∀ m, m ≤ σ.2.1 3 → (∀ i, i < m → σ.1 3 i < x) → (∀ i, m ≤ i → i < σ.2.1 3 → ¬ σ.1 3 i < x) → rpN (σ.1 3) x 0 (σ.2.1 3) = m := fun m h1 h2 h3 => rpN_eq (Nat.zero_le _) (by omega) (fun i _ h => h2 i h) (fun i h1 h2 => h3 i h1 (by omega))
  induction m with
  | zero =>
    intro hm hg
    have ep := fn 0 (Nat.zero_le _) (fun i hi => absurd hi (Nat.not_lt_zero _)) hg
    refine sw_iload_n (pc' := 29) rfl dX5_come_28 rfl ?_
    refine sw_iconst (pc' := 30) (v := 3) rfl dX5_come_29 (by decide +kernel) ?_
    refine sw_icmp_ne (pc' := 33) (tgt := 57) rfl dX5_come_30 (by decide +kernel) (fun c30 => ?_) (fun c30 => ?_)
    · exact absurd c30 (by decide +kernel)
    · refine sw_iload_n (pc' := 34) rfl dX5_come_33 rfl ?_
      refine sw_if_le (pc' := 37) (tgt := 57) rfl dX5_come_34 (by decide +kernel) (fun c34 => ?_) (fun c34 => ?_)
      · rw [ep]
        refine sw_aload_n (pc' := 58) rfl dX5_come_57 rfl ?_
        refine sw_iload_n (pc' := 59) rfl dX5_come_58 rfl ?_
        refine sw_iload_n (pc' := 60) rfl dX5_come_59 rfl ?_
        refine sw_iload_n (pc' := 61) rfl dX5_come_60 rfl ?_
        refine sw_V (M' := MX5_comeAt) (d' := d - 1) (bc' := 0) (bs' := 0) (ci := 6) (as := [_, _, _]) dX5_come_61 w_1199 ok_X5_comeAt (q_comeAt hM hA (by omega) (by omega) (by omega)) hM.ob rfl (by omega) (Nat.le_of_ble_eq_true rfl) (Nat.zero_le _) (Nat.zero_le _) (fun E h' n' _ z => rp_x z) (rp_k (fun p pρ pτ pM pA pF => ?_))
        obtain ⟨Gp, hGp, eGp⟩ := pM.out
        refine sw_iconst (pc' := 65) (v := 1) rfl dX5_come_64 (by decide +kernel) ?_
        refine sw_ret (v := some _) ⟨dX5_come_65, _, rfl, rfl⟩ ?_
        exact ⟨rfl, rfl, ⟨_, _, pM, pA⟩, pF⟩
      · exact absurd (Int32.le_refl 0) c34
  | succ m ih =>
    intro hm hg
    refine sw_iload_n (pc' := 29) rfl dX5_come_28 rfl ?_
    refine sw_iconst (pc' := 30) (v := 3) rfl dX5_come_29 (by decide +kernel) ?_
    refine sw_icmp_ne (pc' := 33) (tgt := 57) rfl dX5_come_30 (by decide +kernel) (fun c30 => ?_) (fun c30 => ?_)
    · exact absurd c30 (by decide +kernel)
    · refine sw_iload_n (pc' := 34) rfl dX5_come_33 rfl ?_
      refine sw_if_le (pc' := 37) (tgt := 57) rfl dX5_come_34 (by decide +kernel) (fun c34 => ?_) (fun c34 => ?_)
      · exact absurd c34 (nI_nle (by omega) (by omega))
      · refine sw_aload_n (pc' := 38) rfl dX5_come_37 rfl ?_
        refine sw_getf (ci := 6) (k := 3) (pc' := 41) rfl dX5_come_38 (by decide +kernel) w_1116 hM.ob rfl ?_
        refine sw_iload_n (pc' := 42) rfl dX5_come_41 rfl ?_
        refine sw_aald (j := 3) (pc' := 43) rfl dX5_come_42 hG0 (by decide +kernel) (by decide +kernel) rfl (by omega) (by decide +kernel) (eG0 3 (by omega)) ?_
        refine sw_iload_n (pc' := 44) rfl dX5_come_43 rfl ?_
        refine sw_iconst (pc' := 45) (v := 1) rfl dX5_come_44 (by decide +kernel) ?_
        refine sw_isub (pc' := 46) rfl dX5_come_45 ?_
        refine sw_iald (j := m) (pc' := 47) rfl dX5_come_46 (hM.row (k := 3) (by omega)) (nI_pred m) (by omega) (by decide +kernel) ?_
        rw [hA.1 3 (by omega) m (by omega)]
        refine sw_iload_n (pc' := 48) rfl dX5_come_47 rfl ?_
        refine sw_icmp_le (pc' := 51) (tgt := 57) rfl dX5_come_48 (by decide +kernel) (fun c48 => ?_) (fun c48 => ?_)
        · have hlt : σ.1 3 m < x := Int32.lt_of_le_of_ne c48 (hx m (by omega))
          have ep := fn (m + 1) hm (srt_up hs (by omega) hlt) hg
          rw [ep]
          refine sw_aload_n (pc' := 58) rfl dX5_come_57 rfl ?_
          refine sw_iload_n (pc' := 59) rfl dX5_come_58 rfl ?_
          refine sw_iload_n (pc' := 60) rfl dX5_come_59 rfl ?_
          refine sw_iload_n (pc' := 61) rfl dX5_come_60 rfl ?_
          refine sw_V (M' := MX5_comeAt) (d' := d - 1) (bc' := 0) (bs' := 0) (ci := 6) (as := [_, _, _]) dX5_come_61 w_1199 ok_X5_comeAt (q_comeAt hM hA (by omega) (by omega) (by omega)) hM.ob rfl (by omega) (Nat.le_of_ble_eq_true rfl) (Nat.zero_le _) (Nat.zero_le _) (fun E h' n' _ z => rp_x z) (rp_k (fun p pρ pτ pM pA pF => ?_))
          obtain ⟨Gp, hGp, eGp⟩ := pM.out
          refine sw_iconst (pc' := 65) (v := 1) rfl dX5_come_64 (by decide +kernel) ?_
          refine sw_ret (v := some _) ⟨dX5_come_65, _, rfl, rfl⟩ ?_
          exact ⟨rfl, rfl, ⟨_, _, pM, pA⟩, pF⟩
        · refine sw_iinc (pc' := 54) (lv' := [(3, _), (0, _), (1, _), (2, _)]) (v := nI m) rfl dX5_come_51 rfl ((i_m1 _).trans (nI_pred m)) (by decide +kernel) rfl ?_
          refine sw_goto (tgt := 28) dX5_come_54 (by decide +kernel) ?_
          refine ih (by omega) (fun i h1 h2 => ?_)
          by_cases e : i = m
          · rw [e]; exact Int32.not_lt.mpr (Int32.le_of_lt (Int32.not_le.mp c48))
          · exact hg i (by omega) h2
theorem q_come {h : AH} {d bc bs n : Nat} {ρ : Nat → Nat → Int32} {τ : Nat → Int32} {σ : CS} {th : Int32} {x : Int32} (hM : MM h ρ τ σ th) (hA : AG ρ τ σ) {k : Nat} (hk : k < 11) (hs : k = 3 → srt (σ.1 k) (σ.2.1 k)) (hc : σ.2.1 k < 12) (hd : 2 ≤ d) : SM SR0 MX5_come d bc bs [.ref 135, .int (nI k), .int x] h n (RP h n (some (.int (bI (ldY (σ.1 k) (σ.2.1 k) (kdO k) x)))) (ldU σ k x) th) := by
  obtain ⟨G0, hG0, eG0⟩ := hM.out
  refine sm_of pn_OverwalksModel rfl (Nat.le_of_ble_eq_true rfl) ?_
  by_cases k3 : k = 3
  · subst k3
    refine sw_iload_n (pc' := 1) rfl dX5_come_0 rfl ?_
    refine sw_iconst (pc' := 2) (v := 3) rfl dX5_come_1 (by decide +kernel) ?_
    refine sw_icmp_eq (pc' := 5) (tgt := 10) rfl dX5_come_2 (by decide +kernel) (fun c2 => ?_) (fun c2 => ?_)
    · refine sw_aload_n (pc' := 11) rfl dX5_come_10 rfl ?_
      refine sw_iload_n (pc' := 12) rfl dX5_come_11 rfl ?_
      refine sw_iload_n (pc' := 13) rfl dX5_come_12 rfl ?_
      refine sw_V (M' := MX5_count) (d' := d - 1) (bc' := 0) (bs' := 0) (ci := 6) (as := [_, _]) dX5_come_13 w_1192 ok_X5_count (q_count hM hA (by omega) (by omega) (by omega)) hM.ob rfl (by omega) (Nat.le_of_ble_eq_true rfl) (Nat.zero_le _) (Nat.zero_le _) (fun E h' n' _ z => det_x z) (det_k ?_)
      have hl := coN_le (f := σ.1 3) (x := x) (m := σ.2.1 3) (j := 0)
      refine sw_if_le (pc' := 19) (tgt := 21) rfl dX5_come_16 (by decide +kernel) (fun c16 => ?_) (fun c16 => ?_)
      · refine sw_aload_n (pc' := 22) rfl dX5_come_21 rfl ?_
        refine sw_getf (ci := 6) (k := 4) (pc' := 25) rfl dX5_come_22 (by decide +kernel) w_1117 hM.ob rfl ?_
        refine sw_iload_n (pc' := 26) rfl dX5_come_25 rfl ?_
        refine sw_iald (j := 3) (pc' := 27) rfl dX5_come_26 hM.sz rfl (by omega) (by decide +kernel) ?_
        refine sw_istore_n (pc' := 28) (lv' := [(3, _), (0, _), (1, _), (2, _)]) rfl dX5_come_27 (by decide +kernel) rfl ?_
        have e9 : (fpN (σ.1 3) x 0 (σ.2.1 3)).isSome = false := fp_of_co (fun g => absurd ((nI_gt0 (by omega)).mpr g) (Int32.not_lt.mpr c16))
        have e1 : ldY (σ.1 3) (σ.2.1 3) (kdO 3) x = true := by rw [ldY, e9]; rfl
        rw [ldU_p (p := rpN (σ.1 3) x 0 (σ.2.1 3)) e1 rfl, e1]
        exact ql_come hM hA (hs rfl) (fpN_isS e9) hc (by omega) _ (Nat.le_refl _) (fun i h1 h2 => absurd h2 (by omega))
      · refine sw_iconst (pc' := 20) (v := 0) rfl dX5_come_19 (by decide +kernel) ?_
        refine sw_ret (v := some _) ⟨dX5_come_20, _, rfl, rfl⟩ ?_
        have e1 : ldY (σ.1 3) (σ.2.1 3) (kdO 3) x = false := by rw [ldY, fp_of_co1 ((nI_gt0 (by omega)).mp (Int32.not_le.mp c16))]; rfl
        rw [ldU_n e1, e1]
        exact ⟨rfl, rfl, ⟨_, _, hM, hA⟩, FrM.rf⟩
    · exact absurd c2 (by decide +kernel)
  · by_cases k4 : k = 4
    · subst k4
      refine sw_iload_n (pc' := 1) rfl dX5_come_0 rfl ?_
      refine sw_iconst (pc' := 2) (v := 3) rfl dX5_come_1 (by decide +kernel) ?_
      refine sw_icmp_eq (pc' := 5) (tgt := 10) rfl dX5_come_2 (by decide +kernel) (fun c2 => ?_) (fun c2 => ?_)
      · exact absurd c2 (by decide +kernel)
      · refine sw_iload_n (pc' := 6) rfl dX5_come_5 rfl ?_
        refine sw_iconst (pc' := 7) (v := 4) rfl dX5_come_6 (by decide +kernel) ?_
        refine sw_icmp_ne (pc' := 10) (tgt := 21) rfl dX5_come_7 (by decide +kernel) (fun c7 => ?_) (fun c7 => ?_)
        · exact absurd c7 (by decide +kernel)
        · refine sw_aload_n (pc' := 11) rfl dX5_come_10 rfl ?_
          refine sw_iload_n (pc' := 12) rfl dX5_come_11 rfl ?_
          refine sw_iload_n (pc' := 13) rfl dX5_come_12 rfl ?_
          refine sw_V (M' := MX5_count) (d' := d - 1) (bc' := 0) (bs' := 0) (ci := 6) (as := [_, _]) dX5_come_13 w_1192 ok_X5_count (q_count hM hA (by omega) (by omega) (by omega)) hM.ob rfl (by omega) (Nat.le_of_ble_eq_true rfl) (Nat.zero_le _) (Nat.zero_le _) (fun E h' n' _ z => det_x z) (det_k ?_)
          have hl := coN_le (f := σ.1 4) (x := x) (m := σ.2.1 4) (j := 0)
          refine sw_if_le (pc' := 19) (tgt := 21) rfl dX5_come_16 (by decide +kernel) (fun c16 => ?_) (fun c16 => ?_)
          · refine sw_aload_n (pc' := 22) rfl dX5_come_21 rfl ?_
            refine sw_getf (ci := 6) (k := 4) (pc' := 25) rfl dX5_come_22 (by decide +kernel) w_1117 hM.ob rfl ?_
            refine sw_iload_n (pc' := 26) rfl dX5_come_25 rfl ?_
            refine sw_iald (j := 4) (pc' := 27) rfl dX5_come_26 hM.sz rfl (by omega) (by decide +kernel) ?_
            refine sw_istore_n (pc' := 28) (lv' := [(3, _), (0, _), (1, _), (2, _)]) rfl dX5_come_27 (by decide +kernel) rfl ?_
            refine sw_iload_n (pc' := 29) rfl dX5_come_28 rfl ?_
            refine sw_iconst (pc' := 30) (v := 3) rfl dX5_come_29 (by decide +kernel) ?_
            refine sw_icmp_ne (pc' := 33) (tgt := 57) rfl dX5_come_30 (by decide +kernel) (fun c30 => ?_) (fun c30 => ?_)
            · have e9 : (fpN (σ.1 4) x 0 (σ.2.1 4)).isSome = false := fp_of_co (fun g => absurd ((nI_gt0 (by omega)).mpr g) (Int32.not_lt.mpr c16))
              have e1 : ldY (σ.1 4) (σ.2.1 4) (kdO 4) x = true := by rw [ldY, e9]; rfl
              rw [ldU_p (p := σ.2.1 4) e1 rfl, e1]
              refine sw_aload_n (pc' := 58) rfl dX5_come_57 rfl ?_
              refine sw_iload_n (pc' := 59) rfl dX5_come_58 rfl ?_
              refine sw_iload_n (pc' := 60) rfl dX5_come_59 rfl ?_
              refine sw_iload_n (pc' := 61) rfl dX5_come_60 rfl ?_
              refine sw_V (M' := MX5_comeAt) (d' := d - 1) (bc' := 0) (bs' := 0) (ci := 6) (as := [_, _, _]) dX5_come_61 w_1199 ok_X5_comeAt (q_comeAt hM hA (by omega) (by omega) (by omega)) hM.ob rfl (by omega) (Nat.le_of_ble_eq_true rfl) (Nat.zero_le _) (Nat.zero_le _) (fun E h' n' _ z => rp_x z) (rp_k (fun p pρ pτ pM pA pF => ?_))
              obtain ⟨Gp, hGp, eGp⟩ := pM.out
              refine sw_iconst (pc' := 65) (v := 1) rfl dX5_come_64 (by decide +kernel) ?_
              refine sw_ret (v := some _) ⟨dX5_come_65, _, rfl, rfl⟩ ?_
              exact ⟨rfl, rfl, ⟨_, _, pM, pA⟩, pF⟩
            · exact absurd c30 (by decide +kernel)
          · refine sw_iconst (pc' := 20) (v := 0) rfl dX5_come_19 (by decide +kernel) ?_
            refine sw_ret (v := some _) ⟨dX5_come_20, _, rfl, rfl⟩ ?_
            have e1 : ldY (σ.1 4) (σ.2.1 4) (kdO 4) x = false := by rw [ldY, fp_of_co1 ((nI_gt0 (by omega)).mp (Int32.not_le.mp c16))]; rfl
            rw [ldU_n e1, e1]
            exact ⟨rfl, rfl, ⟨_, _, hM, hA⟩, FrM.rf⟩
    · have e1 : ldY (σ.1 k) (σ.2.1 k) (kdO k) x = true := by rw [ldY, kE_n hk k3 k4]; rfl
      have ep : ldP (σ.1 k) (σ.2.1 k) (kdO k) x = σ.2.1 k := if_neg (fun e => k3 (kdO_3 hk e))
      rw [ldU_p e1 ep, e1]
      refine sw_iload_n (pc' := 1) rfl dX5_come_0 rfl ?_
      refine sw_iconst (pc' := 2) (v := 3) rfl dX5_come_1 (by decide +kernel) ?_
      refine sw_icmp_eq (pc' := 5) (tgt := 10) rfl dX5_come_2 (by decide +kernel) (fun c2 => ?_) (fun c2 => ?_)
      · exact absurd ((nI_eq (b := 3) (by omega) (by decide +kernel)).mp c2) k3
      · refine sw_iload_n (pc' := 6) rfl dX5_come_5 rfl ?_
        refine sw_iconst (pc' := 7) (v := 4) rfl dX5_come_6 (by decide +kernel) ?_
        refine sw_icmp_ne (pc' := 10) (tgt := 21) rfl dX5_come_7 (by decide +kernel) (fun c7 => ?_) (fun c7 => ?_)
        · refine sw_aload_n (pc' := 22) rfl dX5_come_21 rfl ?_
          refine sw_getf (ci := 6) (k := 4) (pc' := 25) rfl dX5_come_22 (by decide +kernel) w_1117 hM.ob rfl ?_
          refine sw_iload_n (pc' := 26) rfl dX5_come_25 rfl ?_
          refine sw_iald (j := k) (pc' := 27) rfl dX5_come_26 hM.sz rfl (by omega) (by decide +kernel) ?_
          refine sw_istore_n (pc' := 28) (lv' := [(3, _), (0, _), (1, _), (2, _)]) rfl dX5_come_27 (by decide +kernel) rfl ?_
          refine sw_iload_n (pc' := 29) rfl dX5_come_28 rfl ?_
          refine sw_iconst (pc' := 30) (v := 3) rfl dX5_come_29 (by decide +kernel) ?_
          refine sw_icmp_ne (pc' := 33) (tgt := 57) rfl dX5_come_30 (by decide +kernel) (fun c30 => ?_) (fun c30 => ?_)
          · refine sw_aload_n (pc' := 58) rfl dX5_come_57 rfl ?_
            refine sw_iload_n (pc' := 59) rfl dX5_come_58 rfl ?_
            refine sw_iload_n (pc' := 60) rfl dX5_come_59 rfl ?_
            refine sw_iload_n (pc' := 61) rfl dX5_come_60 rfl ?_
            refine sw_V (M' := MX5_comeAt) (d' := d - 1) (bc' := 0) (bs' := 0) (ci := 6) (as := [_, _, _]) dX5_come_61 w_1199 ok_X5_comeAt (q_comeAt hM hA (by omega) (by omega) (by omega)) hM.ob rfl (by omega) (Nat.le_of_ble_eq_true rfl) (Nat.zero_le _) (Nat.zero_le _) (fun E h' n' _ z => rp_x z) (rp_k (fun p pρ pτ pM pA pF => ?_))
            obtain ⟨Gp, hGp, eGp⟩ := pM.out
            refine sw_iconst (pc' := 65) (v := 1) rfl dX5_come_64 (by decide +kernel) ?_
            refine sw_ret (v := some _) ⟨dX5_come_65, _, rfl, rfl⟩ ?_
            exact ⟨rfl, rfl, ⟨_, _, pM, pA⟩, pF⟩
          · exact absurd ((nI_eq (b := 3) (by omega) (by decide +kernel)).mp c30) k3
        · exact absurd ((nI_eq (b := 4) (by omega) (by decide +kernel)).mp c7) k4
theorem ql_comeAll {h0 : AH} {d bc bs n k : Nat} {th : Int32} {a B m9 : Nat} {g : Nat → Int32} (hk : k < 11) (hd : 3 ≤ d) (ha : 158 ≤ a) (han : a < n) (hB9 : B < 2 ^ 31) (hmB : m9 ≤ B) (m : Nat) : ∀ (j : Nat) (h : AH) (w : Bool) (ρ : Nat → Nat → Int32) (τ : Nat → Int32) (σ : CS), MM h ρ τ σ th → AG ρ τ σ → h a = .inl (0, B, .inl g) → FrM h0 h n → (k = 3 → srt (σ.1 k) (σ.2.1 k)) → σ.2.1 k + m ≤ 12 → j + m = m9 → SW SR0 MX5_comeAll d bc bs 6 [(5, .int (nI j)), (4, .int (bI w)), (0, .ref 135), (1, .int (nI k)), (2, .ref a), (3, .int (nI m9))] [] h n (RP h0 n (some (.int (bI (caM k g j m w σ).1))) (caM k g j m w σ).2 th) := by
  induction m with
  | zero =>
    intro j h w ρ τ σ hM hA hB hF hs hc hj
    have hj9 : j = m9 := by omega
    subst hj9
    refine sw_iload (pc' := 8) rfl dX5_comeAll_6 rfl ?_
    refine sw_iload_n (pc' := 9) rfl dX5_comeAll_8 rfl ?_
    refine sw_icmp_ge (pc' := 12) (tgt := 32) rfl dX5_comeAll_9 (by decide +kernel) (fun c9 => ?_) (fun c9 => ?_)
    · refine sw_iload (pc' := 34) rfl dX5_comeAll_32 rfl ?_
      refine sw_S (M' := MX5_one) (d' := d - 1) (bc' := 0) (bs' := 0) (as := [_]) dX5_comeAll_34 w_1196 ok_X5_one (q_one (q := w)) (by omega) (Nat.le_of_ble_eq_true rfl) (Nat.zero_le _) (Nat.zero_le _) (fun E h' n' _ z => det_x z) (det_k ?_)
      refine sw_ret (v := some _) ⟨dX5_comeAll_37, _, rfl, rfl⟩ ?_
      exact ⟨rfl, rfl, ⟨_, _, hM, hA⟩, hF⟩
    · exact absurd (Int32.le_refl _) c9
  | succ m ih =>
    intro j h w ρ τ σ hM hA hB hF hs hc hj
    rw [caM]
    refine sw_iload (pc' := 8) rfl dX5_comeAll_6 rfl ?_
    refine sw_iload_n (pc' := 9) rfl dX5_comeAll_8 rfl ?_
    refine sw_icmp_ge (pc' := 12) (tgt := 32) rfl dX5_comeAll_9 (by decide +kernel) (fun c9 => ?_) (fun c9 => ?_)
    · exact absurd c9 (nI_ge (by omega) (by omega))
    · refine sw_iload (pc' := 14) rfl dX5_comeAll_12 rfl ?_
      refine sw_aload_n (pc' := 15) rfl dX5_comeAll_14 rfl ?_
      refine sw_iload_n (pc' := 16) rfl dX5_comeAll_15 rfl ?_
      refine sw_aload_n (pc' := 17) rfl dX5_comeAll_16 rfl ?_
      refine sw_iload (pc' := 19) rfl dX5_comeAll_17 rfl ?_
      refine sw_iald (j := j) (pc' := 20) rfl dX5_comeAll_19 hB rfl (by omega) (by omega) ?_
      refine sw_V (M' := MX5_come) (d' := d - 1) (bc' := 0) (bs' := 0) (ci := 6) (as := [_, _]) dX5_comeAll_20 w_1188 ok_X5_come (q_come hM hA hk hs (by omega) (by omega)) hM.ob rfl (by omega) (Nat.le_of_ble_eq_true rfl) (Nat.zero_le _) (Nat.zero_le _) (fun E h' n' _ z => rp_x z) (rp_k (fun p pρ pτ pM pA pF => ?_))
      obtain ⟨Gp, hGp, eGp⟩ := pM.out
      refine sw_ior (pc' := 24) rfl dX5_comeAll_23 ?_
      rw [bI_or]
      refine sw_istore (pc' := 26) (lv' := [(4, _), (5, _), (0, _), (1, _), (2, _), (3, _)]) rfl dX5_comeAll_24 (by decide +kernel) rfl ?_
      refine sw_iinc (pc' := 29) (lv' := [(5, _), (4, _), (0, _), (1, _), (2, _), (3, _)]) (v := nI (j + 1)) rfl dX5_comeAll_26 rfl (nI_1 j) (by decide +kernel) rfl ?_
      refine sw_goto (tgt := 6) dX5_comeAll_29 (by decide +kernel) ?_
      have hu := ldU_c2 (σ := σ) (k := k) (x := g j)
      exact ih (j + 1) p (w || ldY (σ.1 k) (σ.2.1 k) (kdO k) (g j)) pρ pτ (ldU σ k (g j)) pM pA ((pF a (Or.inr ha) han).trans hB) (hF.tr pF (Nat.le_refl _)) (fun e => ldU_srt e (hs e)) (by omega) (by omega)
theorem q_comeAll {h : AH} {d bc bs n : Nat} {ρ : Nat → Nat → Int32} {τ : Nat → Int32} {σ : CS} {th : Int32} {a B m9 : Nat} {g : Nat → Int32} (hM : MM h ρ τ σ th) (hA : AG ρ τ σ) {k : Nat} (hk : k < 11) (hs : k = 3 → srt (σ.1 k) (σ.2.1 k)) (hc : σ.2.1 k + m9 ≤ 12) (ha : 158 ≤ a) (han : a < n) (hB : h a = .inl (0, B, .inl g)) (hB9 : B < 2 ^ 31) (hmB : m9 ≤ B) (hd : 3 ≤ d) : SM SR0 MX5_comeAll d bc bs [.ref 135, .int (nI k), .ref a, .int (nI m9)] h n (RP h n (some (.int (bI (caM k g 0 m9 false σ).1))) (caM k g 0 m9 false σ).2 th) := by
  refine sm_of pn_OverwalksModel rfl (Nat.le_of_ble_eq_true rfl) ?_
  refine sw_iconst (pc' := 1) (v := 0) rfl dX5_comeAll_0 (by decide +kernel) ?_
  refine sw_istore (pc' := 3) (lv' := [(4, _), (0, _), (1, _), (2, _), (3, _)]) rfl dX5_comeAll_1 (by decide +kernel) rfl ?_
  refine sw_iconst (pc' := 4) (v := 0) rfl dX5_comeAll_3 (by decide +kernel) ?_
  refine sw_istore (pc' := 6) (lv' := [(5, _), (4, _), (0, _), (1, _), (2, _), (3, _)]) rfl dX5_comeAll_4 (by decide +kernel) rfl ?_
  exact ql_comeAll hk hd ha han hB9 hmB m9 0 h false ρ τ σ hM hA hB FrM.rf hs hc (by omega)
end
section
/-! 40.model -/
/-! the model: new rows, walks -/
/-- a new array of c, with g below -/
def NA (h : AH) (n c : Nat) (g : Nat → Int32) : ARes → AH → Nat → Prop := fun r' h' n' => r' = .inl (some (.ref n)) ∧ n' = n + 1 ∧ (∃ f, h' n = .inl (0, c, .inl f) ∧ ∀ j, j < c → f j = g j) ∧ ∀ i, i ≠ n → h' i = h i
theorem na_k {A : Nat → AH → Option Value → Prop} {h : AH} {n c n0 : Nat} {g : Nat → Int32} (k : ∀ h' f, h' n = .inl (0, c, .inl f) → (∀ j, j < c → f j = g j) → (∀ i, i ≠ n → h' i = h i) → A (n + 1) h' (some (.ref n))) : ∀ (v : Option Value) (h' : AH) (n' : Nat), n0 ≤ n' → NA h n c g (.inl v) h' n' → A n' h' v := by
  rintro v h' n' - ⟨e, rfl, ⟨f, g1, g2⟩, g3⟩
  cases e
  exact k h' f g1 g2 g3
theorem na_x {A : Prop} {h : AH} {n c : Nat} {g : Nat → Int32} {E : String} {h' : AH} {n' : Nat} (z : NA h n c g (.inr E) h' n') : A := by cases z.1
/-- a new array, and the model is otherwise -/
def NL (h : AH) (n c : Nat) (g : Nat → Int32) (σ : CS) (th : Int32) : ARes → AH → Nat → Prop := fun r' h' n' => r' = .inl (some (.ref n)) ∧ n' = n + 1 ∧ (∃ f, h' n = .inl (0, c, .inl f) ∧ ∀ j, j < c → f j = g j) ∧ RMo h' σ th ∧ FrM h h' n
theorem nl_k {A : Nat → AH → Option Value → Prop} {h : AH} {n c n0 : Nat} {g : Nat → Int32} {σ : CS} {th : Int32} (k : ∀ h' ρ τ f, MM h' ρ τ σ th → AG ρ τ σ → h' n = .inl (0, c, .inl f) → (∀ j, j < c → f j = g j) → FrM h h' n → A (n + 1) h' (some (.ref n))) : ∀ (v : Option Value) (h' : AH) (n' : Nat), n0 ≤ n' → NL h n c g σ th (.inl v) h' n' → A n' h' v := by
  rintro v h' n' - ⟨e, rfl, ⟨f, g1, g2⟩, ⟨ρ, τ, q1, q2⟩, g3⟩
  cases e
  exact k h' ρ τ f q1 q2 g1 g2 g3
theorem nl_x {A : Prop} {h : AH} {n c : Nat} {g : Nat → Int32} {σ : CS} {th : Int32} {E : String} {h' : AH} {n' : Nat} (z : NL h n c g σ th (.inr E) h' n') : A := by cases z.1
/-- an answer, nothing old is otherwise -/
def TP (h : AH) (n : Nat) (r : Int32) : ARes → AH → Nat → Prop := fun r' h' n' => r' = .inl (some (.int r)) ∧ n ≤ n' ∧ ∀ i, i < n → h' i = h i
theorem tp_k {A : Nat → AH → Option Value → Prop} {h : AH} {n n0 : Nat} {r : Int32} (k : ∀ h' n', n ≤ n' → (∀ i, i < n → h' i = h i) → A n' h' (some (.int r))) : ∀ (v : Option Value) (h' : AH) (n' : Nat), n0 ≤ n' → TP h n r (.inl v) h' n' → A n' h' v := by
  rintro v h' n' - ⟨e, g1, g2⟩
  cases e
  exact k h' n' g1 g2
theorem tp_x {A : Prop} {h : AH} {n : Nat} {r : Int32} {E : String} {h' : AH} {n' : Nat} (z : TP h n r (.inr E) h' n') : A := by cases z.1
theorem blN_z {f g : Nat → Int32} {j : Nat} : up (blN f g 0 j) j (g j) = blN f g 0 (j + 1) := by
  have := blN_s (f := f) (f2 := g) (k := 0) (i := j)
  rw [Nat.zero_add] at this
  exact this
theorem blN_in {f g : Nat → Int32} {k i j : Nat} (h : j < i) : blN f g k i j = g (k + j) := if_pos h
theorem wSt_t {σ : CS} {k : Nat} (h : ¬ (σ.2.2.2.2.1 k).2.2.2.2.2.1 = σ.2.2.1 (wO σ k)) : wSt σ k = true := decide_eq_true (p := σ.2.2.1 (wO σ k) ≠ (σ.2.2.2.2.1 k).2.2.2.2.2.1) (fun q => h q.symm)
theorem wSt_f {σ : CS} {k : Nat} (h : (σ.2.2.2.2.1 k).2.2.2.2.2.1 = σ.2.2.1 (wO σ k)) : wSt σ k = false := decide_eq_false (p := σ.2.2.1 (wO σ k) ≠ (σ.2.2.2.2.1 k).2.2.2.2.2.1) (fun q => q h.symm)
theorem nI_ne1 {j : Nat} (h : j < 2 ^ 31) : ¬ nI j = -1 := fun e => nI_pos h (e ▸ (by decide +kernel))
theorem i_sub1 {a b : Int32} : a + 1 - b = a - b + 1 := by rw [Int32.sub_eq_add_neg, Int32.add_assoc, Int32.add_comm 1, ← Int32.add_assoc, ← Int32.sub_eq_add_neg]
/-- the model's WALK gives one -/
theorem MM.giveU {h h' : AH} {ρ : Nat → Nat → Int32} {τ : Nat → Int32} {σ : CS} {th : Int32} {k A : Nat} (hM : MM h ρ τ σ th) (hk : k < 6) (hm : (σ.2.2.2.2.1 k).1 = true) (hA : wAh σ k = nI A) (e2 : h' 152 = .inl (0, 6, .inl (up (fun j => (σ.2.2.2.2.1 j).2.2.2.1) k ((σ.2.2.2.2.1 k).2.2.2.1 + 1)))) (e4 : h' 154 = .inl (0, 6, .inl (up (wAh σ) k (nI (A + 1)))))
    (e5 : h' 155 = .inl (1, 6, .inl (up (fun j => bI (σ.2.2.2.2.1 j).2.2.2.2.2.2.2) k (vp_nar .boolean 1)))) (e6 : h' 157 = .inl (0, 6, .inl (up τ k (σ.2.2.2.1 (wO σ k))))) (hF : ∀ i, i ≠ 152 → i ≠ 154 → i ≠ 155 → i ≠ 157 → h' i = h i) : MM h' ρ (up τ k (σ.2.2.2.1 (wO σ k))) (gvU σ k 1) th := by
  rw [gvU_1]
  refine hM.wkU hk (q := ((σ.2.2.2.2.1 k).1, wO σ k, (σ.2.2.2.2.1 k).2.2.1, (σ.2.2.2.2.1 k).2.2.2.1 + 1, (σ.2.2.2.2.1 k).2.2.2.2.1, (σ.2.2.2.2.1 k).2.2.2.2.2.1, σ.2.2.2.1 (wO σ k), true)) ?_ ?_ e2 ?_ ?_ e5 e6 (fun i hi => hF i (by omega) (by omega) (by omega) (by omega))
  · rw [hF 150 (by decide +kernel) (by decide +kernel) (by decide +kernel) (by decide +kernel), hM.sh]
    show _ = Sum.inl (0, 6, Sum.inl (up (shF σ) k (if (σ.2.2.2.2.1 k).1 then nI (wO σ k) else -1)))
    rw [if_pos hm, ← shF_m hk hm, up_id]
  · rw [hF 151 (by decide +kernel) (by decide +kernel) (by decide +kernel) (by decide +kernel), hM.hw]
    show _ = Sum.inl (0, 6, Sum.inl (up (fun j => (σ.2.2.2.2.1 j).2.2.1) k ((fun j => (σ.2.2.2.2.1 j).2.2.1) k)))
    rw [up_id]
  · rw [hF 153 (by decide +kernel) (by decide +kernel) (by decide +kernel) (by decide +kernel), hM.st]
    show _ = Sum.inl (0, 6, Sum.inl (up (fun j => (σ.2.2.2.2.1 j).2.2.2.2.2.1) k ((fun j => (σ.2.2.2.2.1 j).2.2.2.2.2.1) k)))
    rw [up_id]
  · rw [e4]
    show _ = Sum.inl (0, 6, Sum.inl (up (wAh σ) k ((σ.2.2.2.2.1 k).2.2.2.1 + 1 - (σ.2.2.2.2.1 k).2.2.2.2.1)))
    rw [i_sub1]
    show _ = Sum.inl (0, 6, Sum.inl (up (wAh σ) k (wAh σ k + 1)))
    rw [hA, nI_1]
theorem AG.giveU {ρ : Nat → Nat → Int32} {τ : Nat → Int32} {σ : CS} {k : Nat} (hA : AG ρ τ σ) : AG ρ (up τ k (σ.2.2.2.1 (wO σ k))) (gvU σ k 1) := by
  rw [gvU_1]
  exact hA.wkU (fun _ => rfl)
theorem ctN_a {g : Nat → Int32} {m : Nat} : ∀ {j : Nat} {v : Int32}, ctN g j (m + 1) v = ctN g (j + 1) m (v + g j) := rfl
theorem ql_picture {h : AH} {d bc bs n : Nat} {ρ : Nat → Nat → Int32} {τ : Nat → Int32} {σ : CS} {th : Int32} (hM : MM h ρ τ σ th) (hA : AG ρ τ σ) {k : Nat} (hk : k < 11) (hc : σ.2.1 k ≤ 12) (hn : 158 ≤ n) (m : Nat) : ∀ (j : Nat) (g : AH) (f : Nat → Int32), j + m = σ.2.1 k → g n = .inl (0, σ.2.1 k, .inl f) → (∀ i, i < j → f i = σ.1 k i) → (∀ i, i ≠ n → g i = h i) → SW SR0 MX5_picture d bc bs 14 [(4, .int (nI j)), (3, .ref n), (0, .ref 135), (1, .int (nI k)), (2, .int 0)] [] g (n + 1) (NA h n (σ.2.1 k) (σ.1 k)) := by
  obtain ⟨G0, hG0, eG0⟩ := hM.out
  induction m with
  | zero =>
    intro j g f hj hr hf hF
    have hjc : j = σ.2.1 k := by omega
    subst hjc
    refine sw_iload (pc' := 16) rfl dX5_picture_14 rfl ?_
    refine sw_aload_n (pc' := 17) rfl dX5_picture_16 rfl ?_
    refine sw_alen (pc' := 18) rfl dX5_picture_17 hr (by decide +kernel) (Or.inl (by show 100 ≤ _; omega)) ?_
    refine sw_icmp_ge (pc' := 21) (tgt := 42) rfl dX5_picture_18 (by decide +kernel) (fun c18 => ?_) (fun c18 => ?_)
    · refine sw_aload_n (pc' := 43) rfl dX5_picture_42 rfl ?_
      refine sw_ret (v := some _) ⟨dX5_picture_43, _, rfl, Or.inr ⟨_, rfl⟩⟩ ?_
      exact ⟨rfl, rfl, ⟨f, hr, hf⟩, hF⟩
    · exact absurd (Int32.le_refl _) c18
  | succ m ih =>
    intro j g f hj hr hf hF
    refine sw_iload (pc' := 16) rfl dX5_picture_14 rfl ?_
    refine sw_aload_n (pc' := 17) rfl dX5_picture_16 rfl ?_
    refine sw_alen (pc' := 18) rfl dX5_picture_17 hr (by decide +kernel) (Or.inl (by show 100 ≤ _; omega)) ?_
    refine sw_icmp_ge (pc' := 21) (tgt := 42) rfl dX5_picture_18 (by decide +kernel) (fun c18 => ?_) (fun c18 => ?_)
    · exact absurd c18 (nI_ge (by omega) (by omega))
    · refine sw_aload_n (pc' := 22) rfl dX5_picture_21 rfl ?_
      refine sw_iload (pc' := 24) rfl dX5_picture_22 rfl ?_
      refine sw_aload_n (pc' := 25) rfl dX5_picture_24 rfl ?_
      refine sw_getf (ci := 6) (k := 3) (pc' := 28) rfl dX5_picture_25 (by decide +kernel) w_1116 ((hF 135 (by omega)).trans hM.ob) rfl ?_
      refine sw_iload_n (pc' := 29) rfl dX5_picture_28 rfl ?_
      refine sw_aald (j := k) (pc' := 30) rfl dX5_picture_29 ((hF 136 (by omega)).trans hG0) (by decide +kernel) (by decide +kernel) rfl (by omega) (by decide +kernel) (eG0 k (by omega)) ?_
      refine sw_iload_n (pc' := 31) rfl dX5_picture_30 rfl ?_
      refine sw_iload (pc' := 33) rfl dX5_picture_31 rfl ?_
      refine sw_iadd (pc' := 34) rfl dX5_picture_33 ?_
      rw [show (0 : Int32) + nI j = nI j from Int32.zero_add _]
      refine sw_iald (j := j) (pc' := 35) rfl dX5_picture_34 ((hF (137 + k) (by omega)).trans (hM.row (k := k) (by omega))) rfl (by omega) (by decide +kernel) ?_
      rw [hA.1 k (by omega) j (by omega)]
      refine sw_iast (j := j) (pc' := 36) rfl dX5_picture_35 hr (by show 100 ≤ _; omega) rfl (by omega) (by omega) ?_
      refine sw_nm (fun g1 eg1 => ?_)
      have zg1 := (congrFun eg1 n).trans (up_s (h := g) (i := n))
      refine sw_iinc (pc' := 39) (lv' := [(4, _), (3, _), (0, _), (1, _), (2, _)]) (v := nI (j + 1)) rfl dX5_picture_36 rfl (nI_1 j) (by decide +kernel) rfl ?_
      refine sw_goto (tgt := 14) dX5_picture_39 (by decide +kernel) ?_
      exact ih (j + 1) g1 _ (by omega) zg1 (fun i hi => (Nat.lt_or_ge i j).elim (fun g => (up_n (by omega)).trans (hf i g)) (fun g => (show i = j by omega) ▸ up_s)) (fun i h1 => (congrFun eg1 i).trans ((up_n h1).trans (hF i h1)))
theorem q_picture {h : AH} {d bc bs n : Nat} {ρ : Nat → Nat → Int32} {τ : Nat → Int32} {σ : CS} {th : Int32} (hM : MM h ρ τ σ th) (hA : AG ρ τ σ) {k : Nat} (hk : k < 11) (hc : σ.2.1 k ≤ 12) (hn : 158 ≤ n) (h1 : 1 ≤ bc) (h2 : 12 ≤ bs) : SM SR0 MX5_picture d bc bs [.ref 135, .int (nI k), .int 0] h n (NA h n (σ.2.1 k) (σ.1 k)) := by
  obtain ⟨G0, hG0, eG0⟩ := hM.out
  refine sm_of pn_OverwalksModel rfl (Nat.le_of_ble_eq_true rfl) ?_
  refine sw_aload_n (pc' := 1) rfl dX5_picture_0 rfl ?_
  refine sw_getf (ci := 6) (k := 4) (pc' := 4) rfl dX5_picture_1 (by decide +kernel) w_1117 hM.ob rfl ?_
  refine sw_iload_n (pc' := 5) rfl dX5_picture_4 rfl ?_
  refine sw_iald (j := k) (pc' := 6) rfl dX5_picture_5 hM.sz rfl (by omega) (by decide +kernel) ?_
  refine sw_iload_n (pc' := 7) rfl dX5_picture_6 rfl ?_
  refine sw_isub (pc' := 8) rfl dX5_picture_7 ?_
  rw [show nI (σ.2.1 k) - 0 = nI (σ.2.1 k) from Int32.sub_zero _]
  refine sw_newa (t := 0) (len := σ.2.1 k) (pc' := 10) rfl dX5_picture_8 (by decide +kernel) w_101 rfl (by omega) (by omega) (by omega) ?_
  refine sw_nm (fun g2 eg2 => ?_)
  have zg2 := (congrFun eg2 n).trans (up_s (h := h) (i := n))
  refine sw_astore_n (pc' := 11) (lv' := [(3, _), (0, _), (1, _), (2, _)]) rfl dX5_picture_10 (by decide +kernel) rfl ?_
  refine sw_iconst (pc' := 12) (v := 0) rfl dX5_picture_11 (by decide +kernel) ?_
  refine sw_istore (pc' := 14) (lv' := [(4, _), (3, _), (0, _), (1, _), (2, _)]) rfl dX5_picture_12 (by decide +kernel) rfl ?_
  exact ql_picture hM hA hk hc hn (σ.2.1 k) 0 g2 _ (by omega) zg2 (fun i hi => absurd hi (Nat.not_lt_zero _)) (fun i h1 => (congrFun eg2 i).trans ((up_n h1).trans (rfl)))
theorem ql_made {h : AH} {d bc bs n : Nat} {ρ : Nat → Nat → Int32} {τ : Nat → Int32} {σ : CS} {th : Int32} {a B : Nat} {g f : Nat → Int32} (hM : MM h ρ τ σ th) (hA : AG ρ τ σ) {k : Nat} (hk : k < 11) (ha : 158 ≤ a) (hB : h a = .inl (0, B, .inl g)) (hB9 : B ≤ 12) (hf : ∀ j, j < B → g j = f j) (m : Nat) : ∀ (j : Nat) (q : AH), j + m = B → q (137 + k) = .inl (0, 12, .inl (blN (ρ k) g 0 j)) → (∀ i, i ≠ 137 + k → q i = h i) → SW SR0 MX5_made d bc bs 2 [(3, .int (nI j)), (0, .ref 135), (1, .int (nI k)), (2, .ref a)] [] q n (RP h n (some (.int (nI B))) (sU σ k f B (σ.2.2.1 k + 1) (σ.2.2.2.1 k)) th) := by
  obtain ⟨G0, hG0, eG0⟩ := hM.out
  induction m with
  | zero =>
    intro j q hj hr hF
    have hjB : j = B := by omega
    subst hjB
    refine sw_iload_n (pc' := 3) rfl dX5_made_2 rfl ?_
    refine sw_aload_n (pc' := 4) rfl dX5_made_3 rfl ?_
    refine sw_alen (pc' := 5) rfl dX5_made_4 ((hF a (by omega)).trans hB) (by decide +kernel) (Or.inl (by show 100 ≤ _; omega)) ?_
    refine sw_icmp_ge (pc' := 8) (tgt := 25) rfl dX5_made_5 (by decide +kernel) (fun c5 => ?_) (fun c5 => ?_)
    · refine sw_aload_n (pc' := 26) rfl dX5_made_25 rfl ?_
      refine sw_getf (ci := 6) (k := 4) (pc' := 29) rfl dX5_made_26 (by decide +kernel) w_1117 ((hF 135 (by omega)).trans hM.ob) rfl ?_
      refine sw_iload_n (pc' := 30) rfl dX5_made_29 rfl ?_
      refine sw_aload_n (pc' := 31) rfl dX5_made_30 rfl ?_
      refine sw_alen (pc' := 32) rfl dX5_made_31 ((hF a (by omega)).trans hB) (by decide +kernel) (Or.inl (by show 100 ≤ _; omega)) ?_
      refine sw_iast (j := k) (pc' := 33) rfl dX5_made_32 ((hF 148 (by omega)).trans hM.sz) (by decide +kernel) rfl (by omega) (by decide +kernel) ?_
      refine sw_nm (fun g1 eg1 => ?_)
      have zg1 := (congrFun eg1 148).trans (up_s (h := q) (i := 148))
      refine sw_aload_n (pc' := 34) rfl dX5_made_33 rfl ?_
      refine sw_getf (ci := 6) (k := 5) (pc' := 37) rfl dX5_made_34 (by decide +kernel) w_1118 (((congrFun eg1 135).trans (up_n (by omega))).trans ((hF 135 (by omega)).trans hM.ob)) rfl ?_
      refine sw_iload_n (pc' := 38) rfl dX5_made_37 rfl ?_
      refine sw_dup2 (pc' := 39) rfl dX5_made_38 rfl rfl ?_
      refine sw_iald (j := k) (pc' := 40) rfl dX5_made_39 (((congrFun eg1 149).trans (up_n (by omega))).trans ((hF 149 (by omega)).trans hM.sf)) rfl (by omega) (by decide +kernel) ?_
      refine sw_iconst (pc' := 41) (v := 1) rfl dX5_made_40 (by decide +kernel) ?_
      refine sw_iadd (pc' := 42) rfl dX5_made_41 ?_
      refine sw_iast (j := k) (pc' := 43) rfl dX5_made_42 (((congrFun eg1 149).trans (up_n (by omega))).trans ((hF 149 (by omega)).trans hM.sf)) (by decide +kernel) rfl (by omega) (by decide +kernel) ?_
      refine sw_nm (fun g2 eg2 => ?_)
      have zg2 := (congrFun eg2 149).trans (up_s (h := g1) (i := 149))
      refine sw_aload_n (pc' := 44) rfl dX5_made_43 rfl ?_
      refine sw_alen (pc' := 45) rfl dX5_made_44 (((congrFun eg2 a).trans (up_n (by omega))).trans (((congrFun eg1 a).trans (up_n (by omega))).trans ((hF a (by omega)).trans hB))) (by decide +kernel) (Or.inl (by show 100 ≤ _; omega)) ?_
      refine sw_ret (v := some _) ⟨dX5_made_45, _, rfl, rfl⟩ ?_
      have fin : ∀ i, i ≠ 137 + k → i ≠ 148 → i ≠ 149 → i ≠ 156 → g2 i = h i := fun i h1 h2 h3 _ => (congrFun eg2 i).trans ((up_n (by omega)).trans ((congrFun eg1 i).trans ((up_n (by omega)).trans (hF i h1))))
      exact ⟨rfl, rfl, ⟨_, _, hM.shU hk (c := j) (((congrFun eg2 (137 + k)).trans (up_n (by omega))).trans (((congrFun eg1 (137 + k)).trans (up_n (by omega))).trans hr)) (((congrFun eg2 148).trans (up_n (by omega))).trans zg1) zg2 (by rw [up_id]; exact (((congrFun eg2 156).trans (up_n (by omega))).trans (((congrFun eg1 156).trans (up_n (by omega))).trans ((hF 156 (by omega)).trans hM.tu)))) fin, hA.shU (fun i hi => (blN_in hi).trans ((congrArg g (Nat.zero_add i)).trans (hf i hi)))⟩, FrM.of1 (fun i q => fin i (by omega) (by omega) (by omega) (by omega))⟩
    · exact absurd (Int32.le_refl _) c5
  | succ m ih =>
    intro j q hj hr hF
    refine sw_iload_n (pc' := 3) rfl dX5_made_2 rfl ?_
    refine sw_aload_n (pc' := 4) rfl dX5_made_3 rfl ?_
    refine sw_alen (pc' := 5) rfl dX5_made_4 ((hF a (by omega)).trans hB) (by decide +kernel) (Or.inl (by show 100 ≤ _; omega)) ?_
    refine sw_icmp_ge (pc' := 8) (tgt := 25) rfl dX5_made_5 (by decide +kernel) (fun c5 => ?_) (fun c5 => ?_)
    · exact absurd c5 (nI_ge (by omega) (by omega))
    · refine sw_aload_n (pc' := 9) rfl dX5_made_8 rfl ?_
      refine sw_getf (ci := 6) (k := 3) (pc' := 12) rfl dX5_made_9 (by decide +kernel) w_1116 ((hF 135 (by omega)).trans hM.ob) rfl ?_
      refine sw_iload_n (pc' := 13) rfl dX5_made_12 rfl ?_
      refine sw_aald (j := k) (pc' := 14) rfl dX5_made_13 ((hF 136 (by omega)).trans hG0) (by decide +kernel) (by decide +kernel) rfl (by omega) (by decide +kernel) (eG0 k (by omega)) ?_
      refine sw_iload_n (pc' := 15) rfl dX5_made_14 rfl ?_
      refine sw_aload_n (pc' := 16) rfl dX5_made_15 rfl ?_
      refine sw_iload_n (pc' := 17) rfl dX5_made_16 rfl ?_
      refine sw_iald (j := j) (pc' := 18) rfl dX5_made_17 ((hF a (by omega)).trans hB) rfl (by omega) (by omega) ?_
      refine sw_iast (j := j) (pc' := 19) rfl dX5_made_18 hr (by show 100 ≤ _; omega) rfl (by omega) (by decide +kernel) ?_
      refine sw_nm (fun g3 eg3 => ?_)
      have zg3 := (congrFun eg3 (137 + k)).trans (up_s (h := q) (i := (137 + k)))
      refine sw_iinc (pc' := 22) (lv' := [(3, _), (0, _), (1, _), (2, _)]) (v := nI (j + 1)) rfl dX5_made_19 rfl (nI_1 j) (by decide +kernel) rfl ?_
      refine sw_goto (tgt := 2) dX5_made_22 (by decide +kernel) ?_
      exact ih (j + 1) g3 (by omega) (blN_z ▸ zg3) (fun i h1 => (congrFun eg3 i).trans ((up_n h1).trans (hF i h1)))
theorem q_made {h : AH} {d bc bs n : Nat} {ρ : Nat → Nat → Int32} {τ : Nat → Int32} {σ : CS} {th : Int32} {a B : Nat} {g f : Nat → Int32} (hM : MM h ρ τ σ th) (hA : AG ρ τ σ) {k : Nat} (hk : k < 11) (ha : 158 ≤ a) (hB : h a = .inl (0, B, .inl g)) (hB9 : B ≤ 12) (hf : ∀ j, j < B → g j = f j) : SM SR0 MX5_made d bc bs [.ref 135, .int (nI k), .ref a] h n (RP h n (some (.int (nI B))) (sU σ k f B (σ.2.2.1 k + 1) (σ.2.2.2.1 k)) th) := by
  obtain ⟨G0, hG0, eG0⟩ := hM.out
  refine sm_of pn_OverwalksModel rfl (Nat.le_of_ble_eq_true rfl) ?_
  refine sw_iconst (pc' := 1) (v := 0) rfl dX5_made_0 (by decide +kernel) ?_
  refine sw_istore_n (pc' := 2) (lv' := [(3, _), (0, _), (1, _), (2, _)]) rfl dX5_made_1 (by decide +kernel) rfl ?_
  exact ql_made hM hA hk ha hB hB9 hf B 0 h (by omega) (by rw [blN_0]; exact hM.row hk) (fun _ _ => rfl)
theorem q_isUnmade_k {h : AH} {d bc bs n : Nat} {ρ : Nat → Nat → Int32} {τ : Nat → Int32} {σ : CS} {th : Int32} (hM : MM h ρ τ σ th) {k : Nat} (hk : k < 6) (ov : wO σ k < 11) (hd : 2 ≤ d) : SM SR0 MX5_isUnmade d bc bs [.ref 135, .int (nI k)] h n (Det (rI (bI (!(σ.2.2.2.2.1 k).1))) h n) := by
  refine sm_of pn_OverwalksModel rfl (Nat.le_of_ble_eq_true rfl) ?_
  rcases hm : (σ.2.2.2.2.1 k).1 with _ | _
  · refine sw_iload_n (pc' := 1) rfl dX5_isUnmade_0 rfl ?_
    refine sw_S (M' := MX5_isNoWalk) (d' := d - 1) (bc' := 0) (bs' := 0) (as := [_]) dX5_isUnmade_1 w_1306 ok_X5_isNoWalk (q_isNoWalk (by omega)) (by omega) (Nat.le_of_ble_eq_true rfl) (Nat.zero_le _) (Nat.zero_le _) (fun E h' n' _ z => det_x z) (det_k ?_)
    rw [show inB (nI k) 0 5 = true from inB_k (N := 5) (by omega) (by decide +kernel)]
    show SW _ _ _ _ _ _ _ (.int 0 :: _) _ _ _
    refine sw_if_ne (pc' := 7) (tgt := 21) rfl dX5_isUnmade_4 (by decide +kernel) (fun c4 => ?_) (fun c4 => ?_)
    · exact absurd c4 (by decide +kernel)
    · refine sw_aload_n (pc' := 8) rfl dX5_isUnmade_7 rfl ?_
      refine sw_getf (ci := 6) (k := 6) (pc' := 11) rfl dX5_isUnmade_8 (by decide +kernel) w_1119 hM.ob rfl ?_
      refine sw_iload_n (pc' := 12) rfl dX5_isUnmade_11 rfl ?_
      refine sw_iald (j := k) (pc' := 13) rfl dX5_isUnmade_12 hM.sh rfl (by omega) (by decide +kernel) ?_
      rw [shF_n hk hm]
      refine sw_iconst (pc' := 14) (v := (-1)) rfl dX5_isUnmade_13 (by decide +kernel) ?_
      refine sw_icmp_ne (pc' := 17) (tgt := 21) rfl dX5_isUnmade_14 (by decide +kernel) (fun c14 => ?_) (fun c14 => ?_)
      · exact absurd c14 (by decide +kernel)
      · refine sw_iconst (pc' := 18) (v := 1) rfl dX5_isUnmade_17 (by decide +kernel) ?_
        refine sw_goto (tgt := 22) dX5_isUnmade_18 (by decide +kernel) ?_
        refine sw_ret (v := some _) ⟨dX5_isUnmade_22, _, rfl, rfl⟩ ?_
        exact ⟨rfl, rfl, rfl⟩
  · refine sw_iload_n (pc' := 1) rfl dX5_isUnmade_0 rfl ?_
    refine sw_S (M' := MX5_isNoWalk) (d' := d - 1) (bc' := 0) (bs' := 0) (as := [_]) dX5_isUnmade_1 w_1306 ok_X5_isNoWalk (q_isNoWalk (by omega)) (by omega) (Nat.le_of_ble_eq_true rfl) (Nat.zero_le _) (Nat.zero_le _) (fun E h' n' _ z => det_x z) (det_k ?_)
    rw [show inB (nI k) 0 5 = true from inB_k (N := 5) (by omega) (by decide +kernel)]
    show SW _ _ _ _ _ _ _ (.int 0 :: _) _ _ _
    refine sw_if_ne (pc' := 7) (tgt := 21) rfl dX5_isUnmade_4 (by decide +kernel) (fun c4 => ?_) (fun c4 => ?_)
    · exact absurd c4 (by decide +kernel)
    · refine sw_aload_n (pc' := 8) rfl dX5_isUnmade_7 rfl ?_
      refine sw_getf (ci := 6) (k := 6) (pc' := 11) rfl dX5_isUnmade_8 (by decide +kernel) w_1119 hM.ob rfl ?_
      refine sw_iload_n (pc' := 12) rfl dX5_isUnmade_11 rfl ?_
      refine sw_iald (j := k) (pc' := 13) rfl dX5_isUnmade_12 hM.sh rfl (by omega) (by decide +kernel) ?_
      rw [shF_m hk hm]
      refine sw_iconst (pc' := 14) (v := (-1)) rfl dX5_isUnmade_13 (by decide +kernel) ?_
      refine sw_icmp_ne (pc' := 17) (tgt := 21) rfl dX5_isUnmade_14 (by decide +kernel) (fun c14 => ?_) (fun c14 => ?_)
      · refine sw_iconst (pc' := 22) (v := 0) rfl dX5_isUnmade_21 (by decide +kernel) ?_
        refine sw_ret (v := some _) ⟨dX5_isUnmade_22, _, rfl, rfl⟩ ?_
        exact ⟨rfl, rfl, rfl⟩
      · exact absurd c14 (nI_ne1 (by omega))
theorem q_isUnmade_x {h : AH} {d bc bs n : Nat} {ρ : Nat → Nat → Int32} {τ : Nat → Int32} {σ : CS} {th : Int32} {a : Int32} (hM : MM h ρ τ σ th) (hx : inB a 0 5 = false) (hd : 2 ≤ d) : SM SR0 MX5_isUnmade d bc bs [.ref 135, .int a] h n (Det (rI 0) h n) := by
  refine sm_of pn_OverwalksModel rfl (Nat.le_of_ble_eq_true rfl) ?_
  refine sw_iload_n (pc' := 1) rfl dX5_isUnmade_0 rfl ?_
  refine sw_S (M' := MX5_isNoWalk) (d' := d - 1) (bc' := 0) (bs' := 0) (as := [_]) dX5_isUnmade_1 w_1306 ok_X5_isNoWalk (q_isNoWalk (by omega)) (by omega) (Nat.le_of_ble_eq_true rfl) (Nat.zero_le _) (Nat.zero_le _) (fun E h' n' _ z => det_x z) (det_k ?_)
  rw [hx]
  show SW _ _ _ _ _ _ _ (.int 1 :: _) _ _ _
  refine sw_if_ne (pc' := 7) (tgt := 21) rfl dX5_isUnmade_4 (by decide +kernel) (fun c4 => ?_) (fun c4 => ?_)
  · refine sw_iconst (pc' := 22) (v := 0) rfl dX5_isUnmade_21 (by decide +kernel) ?_
    refine sw_ret (v := some _) ⟨dX5_isUnmade_22, _, rfl, rfl⟩ ?_
    exact ⟨rfl, rfl, rfl⟩
  · exact absurd c4 (by decide +kernel)
theorem q_isStale {h : AH} {d bc bs n : Nat} {ρ : Nat → Nat → Int32} {τ : Nat → Int32} {σ : CS} {th : Int32} (hM : MM h ρ τ σ th) {k : Nat} (hk : k < 6) (hm : (σ.2.2.2.2.1 k).1 = true) (ov : wO σ k < 11) : SM SR0 MX5_isStale d bc bs [.ref 135, .int (nI k)] h n (Det (rI (bI (wSt σ k))) h n) := by
  refine sm_of pn_OverwalksModel rfl (Nat.le_of_ble_eq_true rfl) ?_
  refine sw_aload_n (pc' := 1) rfl dX5_isStale_0 rfl ?_
  refine sw_getf (ci := 6) (k := 9) (pc' := 4) rfl dX5_isStale_1 (by decide +kernel) w_1122 hM.ob rfl ?_
  refine sw_iload_n (pc' := 5) rfl dX5_isStale_4 rfl ?_
  refine sw_iald (j := k) (pc' := 6) rfl dX5_isStale_5 hM.st rfl (by omega) (by decide +kernel) ?_
  refine sw_aload_n (pc' := 7) rfl dX5_isStale_6 rfl ?_
  refine sw_getf (ci := 6) (k := 5) (pc' := 10) rfl dX5_isStale_7 (by decide +kernel) w_1118 hM.ob rfl ?_
  refine sw_aload_n (pc' := 11) rfl dX5_isStale_10 rfl ?_
  refine sw_getf (ci := 6) (k := 6) (pc' := 14) rfl dX5_isStale_11 (by decide +kernel) w_1119 hM.ob rfl ?_
  refine sw_iload_n (pc' := 15) rfl dX5_isStale_14 rfl ?_
  refine sw_iald (j := k) (pc' := 16) rfl dX5_isStale_15 hM.sh rfl (by omega) (by decide +kernel) ?_
  rw [shF_m hk hm]
  refine sw_iald (j := wO σ k) (pc' := 17) rfl dX5_isStale_16 hM.sf rfl (by omega) (by decide +kernel) ?_
  refine sw_icmp_eq (pc' := 20) (tgt := 24) rfl dX5_isStale_17 (by decide +kernel) (fun c17 => ?_) (fun c17 => ?_)
  · refine sw_iconst (pc' := 25) (v := 0) rfl dX5_isStale_24 (by decide +kernel) ?_
    refine sw_ret (v := some _) ⟨dX5_isStale_25, _, rfl, rfl⟩ ?_
    exact ⟨by rw [wSt_f c17]; rfl, rfl, rfl⟩
  · refine sw_iconst (pc' := 21) (v := 1) rfl dX5_isStale_20 (by decide +kernel) ?_
    refine sw_goto (tgt := 25) dX5_isStale_21 (by decide +kernel) ?_
    refine sw_ret (v := some _) ⟨dX5_isStale_25, _, rfl, rfl⟩ ?_
    exact ⟨by rw [wSt_t c17]; rfl, rfl, rfl⟩
theorem q_hasMore {h : AH} {d bc bs n : Nat} {ρ : Nat → Nat → Int32} {τ : Nat → Int32} {σ : CS} {th : Int32} (hM : MM h ρ τ σ th) {k : Nat} (hk : k < 6) (hm : (σ.2.2.2.2.1 k).1 = true) (ov : wO σ k < 11) : SM SR0 MX5_hasMore d bc bs [.ref 135, .int (nI k)] h n (Det (rI (bI (decide (wAh σ k < nI (σ.2.1 (wO σ k)))))) h n) := by
  refine sm_of pn_OverwalksModel rfl (Nat.le_of_ble_eq_true rfl) ?_
  refine sw_aload_n (pc' := 1) rfl dX5_hasMore_0 rfl ?_
  refine sw_getf (ci := 6) (k := 10) (pc' := 4) rfl dX5_hasMore_1 (by decide +kernel) w_1123 hM.ob rfl ?_
  refine sw_iload_n (pc' := 5) rfl dX5_hasMore_4 rfl ?_
  refine sw_iald (j := k) (pc' := 6) rfl dX5_hasMore_5 hM.pl rfl (by omega) (by decide +kernel) ?_
  refine sw_aload_n (pc' := 7) rfl dX5_hasMore_6 rfl ?_
  refine sw_getf (ci := 6) (k := 4) (pc' := 10) rfl dX5_hasMore_7 (by decide +kernel) w_1117 hM.ob rfl ?_
  refine sw_aload_n (pc' := 11) rfl dX5_hasMore_10 rfl ?_
  refine sw_getf (ci := 6) (k := 6) (pc' := 14) rfl dX5_hasMore_11 (by decide +kernel) w_1119 hM.ob rfl ?_
  refine sw_iload_n (pc' := 15) rfl dX5_hasMore_14 rfl ?_
  refine sw_iald (j := k) (pc' := 16) rfl dX5_hasMore_15 hM.sh rfl (by omega) (by decide +kernel) ?_
  rw [shF_m hk hm]
  refine sw_iald (j := wO σ k) (pc' := 17) rfl dX5_hasMore_16 hM.sz rfl (by omega) (by decide +kernel) ?_
  refine sw_icmp_ge (pc' := 20) (tgt := 24) rfl dX5_hasMore_17 (by decide +kernel) (fun c17 => ?_) (fun c17 => ?_)
  · refine sw_iconst (pc' := 25) (v := 0) rfl dX5_hasMore_24 (by decide +kernel) ?_
    refine sw_ret (v := some _) ⟨dX5_hasMore_25, _, rfl, rfl⟩ ?_
    exact ⟨by rw [decide_eq_false (Int32.not_lt.mpr c17)]; rfl, rfl, rfl⟩
  · refine sw_iconst (pc' := 21) (v := 1) rfl dX5_hasMore_20 (by decide +kernel) ?_
    refine sw_goto (tgt := 25) dX5_hasMore_21 (by decide +kernel) ?_
    refine sw_ret (v := some _) ⟨dX5_hasMore_25, _, rfl, rfl⟩ ?_
    exact ⟨by rw [decide_eq_true (Int32.not_le.mp c17)]; rfl, rfl, rfl⟩
theorem q_give {h : AH} {d bc bs n : Nat} {ρ : Nat → Nat → Int32} {τ : Nat → Int32} {σ : CS} {th : Int32} {A : Nat} (hM : MM h ρ τ σ th) (hA : AG ρ τ σ) {k : Nat} (hk : k < 6) (hm : (σ.2.2.2.2.1 k).1 = true) (ov : wO σ k < 11) (hc : σ.2.1 (wO σ k) ≤ 12) (eA : wAh σ k = nI A) (hAc : A < σ.2.1 (wO σ k)) : SM SR0 MX5_give d bc bs [.ref 135, .int (nI k)] h n (RP h n (some (.int (σ.1 (wO σ k) A))) (gvU σ k 1) th) := by
  obtain ⟨G0, hG0, eG0⟩ := hM.out
  refine sm_of pn_OverwalksModel rfl (Nat.le_of_ble_eq_true rfl) ?_
  refine sw_aload_n (pc' := 1) rfl dX5_give_0 rfl ?_
  refine sw_getf (ci := 6) (k := 3) (pc' := 4) rfl dX5_give_1 (by decide +kernel) w_1116 hM.ob rfl ?_
  refine sw_aload_n (pc' := 5) rfl dX5_give_4 rfl ?_
  refine sw_getf (ci := 6) (k := 6) (pc' := 8) rfl dX5_give_5 (by decide +kernel) w_1119 hM.ob rfl ?_
  refine sw_iload_n (pc' := 9) rfl dX5_give_8 rfl ?_
  refine sw_iald (j := k) (pc' := 10) rfl dX5_give_9 hM.sh rfl (by omega) (by decide +kernel) ?_
  rw [shF_m hk hm]
  refine sw_aald (j := wO σ k) (pc' := 11) rfl dX5_give_10 hG0 (by decide +kernel) (by decide +kernel) rfl (by omega) (by decide +kernel) (eG0 (wO σ k) (by omega)) ?_
  refine sw_aload_n (pc' := 12) rfl dX5_give_11 rfl ?_
  refine sw_getf (ci := 6) (k := 10) (pc' := 15) rfl dX5_give_12 (by decide +kernel) w_1123 hM.ob rfl ?_
  refine sw_iload_n (pc' := 16) rfl dX5_give_15 rfl ?_
  refine sw_iald (j := k) (pc' := 17) rfl dX5_give_16 hM.pl rfl (by omega) (by decide +kernel) ?_
  rw [eA]
  refine sw_iald (j := A) (pc' := 18) rfl dX5_give_17 (hM.row (k := (wO σ k)) (by omega)) rfl (by omega) (by decide +kernel) ?_
  rw [hA.1 (wO σ k) (by omega) A (by omega)]
  refine sw_istore_n (pc' := 19) (lv' := [(2, _), (0, _), (1, _)]) rfl dX5_give_18 (by decide +kernel) rfl ?_
  refine sw_aload_n (pc' := 20) rfl dX5_give_19 rfl ?_
  refine sw_getf (ci := 6) (k := 10) (pc' := 23) rfl dX5_give_20 (by decide +kernel) w_1123 hM.ob rfl ?_
  refine sw_iload_n (pc' := 24) rfl dX5_give_23 rfl ?_
  refine sw_dup2 (pc' := 25) rfl dX5_give_24 rfl rfl ?_
  refine sw_iald (j := k) (pc' := 26) rfl dX5_give_25 hM.pl rfl (by omega) (by decide +kernel) ?_
  rw [eA]
  refine sw_iconst (pc' := 27) (v := 1) rfl dX5_give_26 (by decide +kernel) ?_
  refine sw_iadd (pc' := 28) rfl dX5_give_27 ?_
  rw [show (nI A) + 1 = nI (A + 1) from nI_add _ _]
  refine sw_iast (j := k) (pc' := 29) rfl dX5_give_28 hM.pl (by decide +kernel) rfl (by omega) (by decide +kernel) ?_
  refine sw_nm (fun g1 eg1 => ?_)
  have zg1 := (congrFun eg1 154).trans (up_s (h := h) (i := 154))
  refine sw_aload_n (pc' := 30) rfl dX5_give_29 rfl ?_
  refine sw_getf (ci := 6) (k := 8) (pc' := 33) rfl dX5_give_30 (by decide +kernel) w_1121 (((congrFun eg1 135).trans (up_n (by omega))).trans hM.ob) rfl ?_
  refine sw_iload_n (pc' := 34) rfl dX5_give_33 rfl ?_
  refine sw_dup2 (pc' := 35) rfl dX5_give_34 rfl rfl ?_
  refine sw_iald (j := k) (pc' := 36) rfl dX5_give_35 (((congrFun eg1 152).trans (up_n (by omega))).trans hM.gi) rfl (by omega) (by decide +kernel) ?_
  refine sw_iconst (pc' := 37) (v := 1) rfl dX5_give_36 (by decide +kernel) ?_
  refine sw_iadd (pc' := 38) rfl dX5_give_37 ?_
  refine sw_iast (j := k) (pc' := 39) rfl dX5_give_38 (((congrFun eg1 152).trans (up_n (by omega))).trans hM.gi) (by decide +kernel) rfl (by omega) (by decide +kernel) ?_
  refine sw_nm (fun g2 eg2 => ?_)
  have zg2 := (congrFun eg2 152).trans (up_s (h := g1) (i := 152))
  refine sw_aload_n (pc' := 40) rfl dX5_give_39 rfl ?_
  refine sw_getf (ci := 6) (k := 11) (pc' := 43) rfl dX5_give_40 (by decide +kernel) w_1124 (((congrFun eg2 135).trans (up_n (by omega))).trans (((congrFun eg1 135).trans (up_n (by omega))).trans hM.ob)) rfl ?_
  refine sw_iload_n (pc' := 44) rfl dX5_give_43 rfl ?_
  refine sw_iconst (pc' := 45) (v := 1) rfl dX5_give_44 (by decide +kernel) ?_
  refine sw_zast (j := k) (pc' := 46) rfl dX5_give_45 (((congrFun eg2 155).trans (up_n (by omega))).trans (((congrFun eg1 155).trans (up_n (by omega))).trans hM.ct)) (by decide +kernel) rfl (by omega) (by decide +kernel) ?_
  refine sw_nm (fun g3 eg3 => ?_)
  have zg3 := (congrFun eg3 155).trans (up_s (h := g2) (i := 155))
  refine sw_aload_n (pc' := 47) rfl dX5_give_46 rfl ?_
  refine sw_getf (ci := 6) (k := 13) (pc' := 50) rfl dX5_give_47 (by decide +kernel) w_1126 (((congrFun eg3 135).trans (up_n (by omega))).trans (((congrFun eg2 135).trans (up_n (by omega))).trans (((congrFun eg1 135).trans (up_n (by omega))).trans hM.ob))) rfl ?_
  refine sw_iload_n (pc' := 51) rfl dX5_give_50 rfl ?_
  refine sw_aload_n (pc' := 52) rfl dX5_give_51 rfl ?_
  refine sw_getf (ci := 6) (k := 12) (pc' := 55) rfl dX5_give_52 (by decide +kernel) w_1125 (((congrFun eg3 135).trans (up_n (by omega))).trans (((congrFun eg2 135).trans (up_n (by omega))).trans (((congrFun eg1 135).trans (up_n (by omega))).trans hM.ob))) rfl ?_
  refine sw_aload_n (pc' := 56) rfl dX5_give_55 rfl ?_
  refine sw_getf (ci := 6) (k := 6) (pc' := 59) rfl dX5_give_56 (by decide +kernel) w_1119 (((congrFun eg3 135).trans (up_n (by omega))).trans (((congrFun eg2 135).trans (up_n (by omega))).trans (((congrFun eg1 135).trans (up_n (by omega))).trans hM.ob))) rfl ?_
  refine sw_iload_n (pc' := 60) rfl dX5_give_59 rfl ?_
  refine sw_iald (j := k) (pc' := 61) rfl dX5_give_60 (((congrFun eg3 150).trans (up_n (by omega))).trans (((congrFun eg2 150).trans (up_n (by omega))).trans (((congrFun eg1 150).trans (up_n (by omega))).trans hM.sh))) rfl (by omega) (by decide +kernel) ?_
  rw [shF_m hk hm]
  refine sw_iald (j := wO σ k) (pc' := 62) rfl dX5_give_61 (((congrFun eg3 156).trans (up_n (by omega))).trans (((congrFun eg2 156).trans (up_n (by omega))).trans (((congrFun eg1 156).trans (up_n (by omega))).trans hM.tu))) rfl (by omega) (by decide +kernel) ?_
  refine sw_iast (j := k) (pc' := 63) rfl dX5_give_62 (((congrFun eg3 157).trans (up_n (by omega))).trans (((congrFun eg2 157).trans (up_n (by omega))).trans (((congrFun eg1 157).trans (up_n (by omega))).trans hM.td))) (by decide +kernel) rfl (by omega) (by decide +kernel) ?_
  refine sw_nm (fun g4 eg4 => ?_)
  have zg4 := (congrFun eg4 157).trans (up_s (h := g3) (i := 157))
  refine sw_iload_n (pc' := 64) rfl dX5_give_63 rfl ?_
  refine sw_ret (v := some _) ⟨dX5_give_64, _, rfl, rfl⟩ ?_
  exact ⟨rfl, rfl, ⟨_, _, hM.giveU hk hm eA (((congrFun eg4 152).trans (up_n (by omega))).trans (((congrFun eg3 152).trans (up_n (by omega))).trans zg2)) (((congrFun eg4 154).trans (up_n (by omega))).trans (((congrFun eg3 154).trans (up_n (by omega))).trans (((congrFun eg2 154).trans (up_n (by omega))).trans zg1))) (((congrFun eg4 155).trans (up_n (by omega))).trans zg3) zg4 (fun i h1 h2 h3 h4 => (congrFun eg4 i).trans ((up_n (by omega)).trans ((congrFun eg3 i).trans ((up_n (by omega)).trans ((congrFun eg2 i).trans ((up_n (by omega)).trans ((congrFun eg1 i).trans ((up_n (by omega)).trans (rfl))))))))), hA.giveU⟩, FrM.of1 (fun i q => (congrFun eg4 i).trans ((up_n (by omega)).trans ((congrFun eg3 i).trans ((up_n (by omega)).trans ((congrFun eg2 i).trans ((up_n (by omega)).trans ((congrFun eg1 i).trans ((up_n (by omega)).trans (rfl)))))))))⟩
theorem q_giveG {h : AH} {d bc bs n : Nat} {ρ : Nat → Nat → Int32} {τ : Nat → Int32} {σ : CS} {th : Int32} {A m : Nat} {k : Nat} (hM : MM h ρ τ (gvU σ k m) th) (hA : AG ρ τ (gvU σ k m)) (hk : k < 6) (hm : (σ.2.2.2.2.1 k).1 = true) (ov : wO σ k < 11) (hc : σ.2.1 (wO σ k) ≤ 12) (eA : wAh σ k = nI A) (hAc : A + m < σ.2.1 (wO σ k)) : SM SR0 MX5_give d bc bs [.ref 135, .int (nI k)] h n (RP h n (some (.int (σ.1 (wO σ k) (A + m)))) (gvU σ k (m + 1)) th) := by
  have g := q_give (σ := gvU σ k m) (d := d) (bc := bc) (bs := bs) (n := n) (A := A + m) hM hA hk (wMk_g.trans hm) (by rw [wO_g]; exact ov) (by rw [wO_g]; exact hc) (wAh_g eA) (by rw [wO_g]; exact hAc)
  rw [gvU_s, wO_g] at g
  exact g
theorem ql_left {h0 : AH} {d bc bs n k A : Nat} {σ : CS} {th : Int32} (hk : k < 6) (hm : (σ.2.2.2.2.1 k).1 = true) (ov : wO σ k < 11) (hc : σ.2.1 (wO σ k) ≤ 12) (eA : wAh σ k = nI A) (hAc : A ≤ σ.2.1 (wO σ k)) (hn : 158 ≤ n) (hd : 1 ≤ d) (m : Nat) : ∀ (j : Nat) (h : AH) (ρ : Nat → Nat → Int32) (τ : Nat → Int32) (f : Nat → Int32), j + m = σ.2.1 (wO σ k) - A → MM h ρ τ (gvU σ k j) th → AG ρ τ (gvU σ k j) → h n = .inl (0, σ.2.1 (wO σ k) - A, .inl f) → (∀ i, i < j → f i = σ.1 (wO σ k) (A + i)) → FrM h0 h n → SW SR0 MX5_left d bc bs 23 [(3, .int (nI j)), (2, .ref n), (0, .ref 135), (1, .int (nI k))] [] h (n + 1) (NL h0 n (σ.2.1 (wO σ k) - A) (fun j => σ.1 (wO σ k) (A + j)) (gvU σ k (σ.2.1 (wO σ k) - A)) th) := by
  induction m with
  | zero =>
    intro j h ρ τ f hj hM hA hr hf hF
    obtain ⟨G0, hG0, eG0⟩ := hM.out
    have hjc : j = σ.2.1 (wO σ k) - A := by omega
    subst hjc
    refine sw_iload_n (pc' := 24) rfl dX5_left_23 rfl ?_
    refine sw_aload_n (pc' := 25) rfl dX5_left_24 rfl ?_
    refine sw_alen (pc' := 26) rfl dX5_left_25 hr (by decide +kernel) (Or.inl (by show 100 ≤ _; omega)) ?_
    refine sw_icmp_ge (pc' := 29) (tgt := 43) rfl dX5_left_26 (by decide +kernel) (fun c26 => ?_) (fun c26 => ?_)
    · refine sw_aload_n (pc' := 44) rfl dX5_left_43 rfl ?_
      refine sw_ret (v := some _) ⟨dX5_left_44, _, rfl, Or.inr ⟨_, rfl⟩⟩ ?_
      exact ⟨rfl, rfl, ⟨f, hr, hf⟩, ⟨_, _, hM, hA⟩, hF⟩
    · exact absurd (Int32.le_refl _) c26
  | succ m ih =>
    intro j h ρ τ f hj hM hA hr hf hF
    obtain ⟨G0, hG0, eG0⟩ := hM.out
    refine sw_iload_n (pc' := 24) rfl dX5_left_23 rfl ?_
    refine sw_aload_n (pc' := 25) rfl dX5_left_24 rfl ?_
    refine sw_alen (pc' := 26) rfl dX5_left_25 hr (by decide +kernel) (Or.inl (by show 100 ≤ _; omega)) ?_
    refine sw_icmp_ge (pc' := 29) (tgt := 43) rfl dX5_left_26 (by decide +kernel) (fun c26 => ?_) (fun c26 => ?_)
    · exact absurd c26 (nI_ge (by omega) (by omega))
    · refine sw_aload_n (pc' := 30) rfl dX5_left_29 rfl ?_
      refine sw_iload_n (pc' := 31) rfl dX5_left_30 rfl ?_
      refine sw_aload_n (pc' := 32) rfl dX5_left_31 rfl ?_
      refine sw_iload_n (pc' := 33) rfl dX5_left_32 rfl ?_
      refine sw_V (M' := MX5_give) (d' := d - 1) (bc' := 0) (bs' := 0) (ci := 6) (as := [_]) dX5_left_33 w_1325 ok_X5_give (q_giveG hM hA hk hm ov hc eA (by omega)) hM.ob rfl (by omega) (Nat.le_of_ble_eq_true rfl) (Nat.zero_le _) (Nat.zero_le _) (fun E h' n' _ z => rp_x z) (rp_k (fun p pρ pτ pM pA pF => ?_))
      obtain ⟨Gp, hGp, eGp⟩ := pM.out
      have hrp := (pF n (Or.inr hn) (by omega)).trans hr
      refine sw_iast (j := j) (pc' := 37) rfl dX5_left_36 hrp (by show 100 ≤ _; omega) rfl (by omega) (by omega) ?_
      refine sw_nm (fun g1 eg1 => ?_)
      have zg1 := (congrFun eg1 n).trans (up_s (h := p) (i := n))
      refine sw_iinc (pc' := 40) (lv' := [(3, _), (2, _), (0, _), (1, _)]) (v := nI (j + 1)) rfl dX5_left_37 rfl (nI_1 j) (by decide +kernel) rfl ?_
      refine sw_goto (tgt := 23) dX5_left_40 (by decide +kernel) ?_
      exact ih (j + 1) g1 pρ pτ _ (by omega) (pM.fr (fun i h1 h2 => (congrFun eg1 i).trans ((up_n (by omega)).trans (rfl)))) pA zg1 (fun i hi => (Nat.lt_or_ge i j).elim (fun g => (up_n (by omega)).trans (hf i g)) (fun g => (show i = j by omega) ▸ up_s)) (fun i q g => ((congrFun eg1 i).trans ((up_n (by omega)).trans (rfl))).trans ((pF i q (by omega)).trans (hF i q g)))
theorem q_left {h : AH} {d bc bs n : Nat} {ρ : Nat → Nat → Int32} {τ : Nat → Int32} {σ : CS} {th : Int32} {k A : Nat} (hM : MM h ρ τ σ th) (hA : AG ρ τ σ) (hk : k < 6) (hm : (σ.2.2.2.2.1 k).1 = true) (ov : wO σ k < 11) (hc : σ.2.1 (wO σ k) ≤ 12) (eA : wAh σ k = nI A) (hAc : A ≤ σ.2.1 (wO σ k)) (hn : 158 ≤ n) (hd : 1 ≤ d) (h1 : 1 ≤ bc) (h2 : 12 ≤ bs) : SM SR0 MX5_left d bc bs [.ref 135, .int (nI k)] h n (NL h n (σ.2.1 (wO σ k) - A) (fun j => σ.1 (wO σ k) (A + j)) (gvU σ k (σ.2.1 (wO σ k) - A)) th) := by
  obtain ⟨G0, hG0, eG0⟩ := hM.out
  refine sm_of pn_OverwalksModel rfl (Nat.le_of_ble_eq_true rfl) ?_
  refine sw_aload_n (pc' := 1) rfl dX5_left_0 rfl ?_
  refine sw_getf (ci := 6) (k := 4) (pc' := 4) rfl dX5_left_1 (by decide +kernel) w_1117 hM.ob rfl ?_
  refine sw_aload_n (pc' := 5) rfl dX5_left_4 rfl ?_
  refine sw_getf (ci := 6) (k := 6) (pc' := 8) rfl dX5_left_5 (by decide +kernel) w_1119 hM.ob rfl ?_
  refine sw_iload_n (pc' := 9) rfl dX5_left_8 rfl ?_
  refine sw_iald (j := k) (pc' := 10) rfl dX5_left_9 hM.sh rfl (by omega) (by decide +kernel) ?_
  rw [shF_m hk hm]
  refine sw_iald (j := wO σ k) (pc' := 11) rfl dX5_left_10 hM.sz rfl (by omega) (by decide +kernel) ?_
  refine sw_aload_n (pc' := 12) rfl dX5_left_11 rfl ?_
  refine sw_getf (ci := 6) (k := 10) (pc' := 15) rfl dX5_left_12 (by decide +kernel) w_1123 hM.ob rfl ?_
  refine sw_iload_n (pc' := 16) rfl dX5_left_15 rfl ?_
  refine sw_iald (j := k) (pc' := 17) rfl dX5_left_16 hM.pl rfl (by omega) (by decide +kernel) ?_
  rw [eA]
  refine sw_isub (pc' := 18) rfl dX5_left_17 ?_
  rw [show nI (σ.2.1 (wO σ k)) - nI A = nI (σ.2.1 (wO σ k) - A) from pk_sub (by omega)]
  refine sw_newa (t := 0) (len := σ.2.1 (wO σ k) - A) (pc' := 20) rfl dX5_left_18 (by decide +kernel) w_101 rfl (by omega) (by omega) (by omega) ?_
  refine sw_nm (fun g2 eg2 => ?_)
  have zg2 := (congrFun eg2 n).trans (up_s (h := h) (i := n))
  refine sw_astore_n (pc' := 21) (lv' := [(2, _), (0, _), (1, _)]) rfl dX5_left_20 (by decide +kernel) rfl ?_
  refine sw_iconst (pc' := 22) (v := 0) rfl dX5_left_21 (by decide +kernel) ?_
  refine sw_istore_n (pc' := 23) (lv' := [(3, _), (2, _), (0, _), (1, _)]) rfl dX5_left_22 (by decide +kernel) rfl ?_
  exact ql_left (h0 := h) hk hm ov hc eA hAc hn hd (σ.2.1 (wO σ k) - A) 0 g2 ρ τ _ (by omega) (by rw [gvU_0]; exact hM.fr (fun i h1 h2 => (congrFun eg2 i).trans ((up_n (by omega)).trans (rfl)))) (by rw [gvU_0]; exact hA) zg2 (fun i hi => absurd hi (Nat.not_lt_zero _)) (fun i q g => (congrFun eg2 i).trans ((up_n (by omega)).trans (rfl)))
end
