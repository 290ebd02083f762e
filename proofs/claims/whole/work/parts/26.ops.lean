/-! listRest, keepRest, pourRest -/
def LrP (h : AH) (w b2 : Nat) (G : Nat) (mk : Bool) (b : Nat) (sh hw gi tk ss ts : Int32) (la : Bool) (kd2 : Nat) (g2 : Nat → Int32) (e2 : Nat) (s2 t2 : Int32) (n : Nat) : ARes → AH → Nat → Prop := fun r' h' n' => r' = rI (nI G) ∧ n' = n ∧ WkF h' w mk b sh hw gi tk ss ts la ∧ ShF h' b2 kd2 g2 e2 s2 t2 ∧ ∀ i, i ≠ w → i ≠ b2 → i ≠ b2 + 1 → h' i = h i
theorem lr_k {A : Nat → AH → Option Value → Prop} {h : AH} {w b2 G b kd2 e2 n n0 : Nat} {mk la : Bool} {sh hw gi tk ss ts s2 t2 : Int32} {g2 : Nat → Int32} (k : ∀ h', WkF h' w mk b sh hw gi tk ss ts la → ShF h' b2 kd2 g2 e2 s2 t2 → (∀ i, i ≠ w → i ≠ b2 → i ≠ b2 + 1 → h' i = h i) → A n h' (some (.int (nI G)))) : ∀ (v : Option Value) (h' : AH) (n' : Nat), n0 ≤ n' → LrP h w b2 G mk b sh hw gi tk ss ts la kd2 g2 e2 s2 t2 n (.inl v) h' n' → A n' h' v := by
  rintro v h' n' - ⟨e, rfl, g1, g2, g3⟩
  cases e
  exact k h' g1 g2 g3
theorem lr_x {A : Prop} {h : AH} {w b2 G b kd2 e2 n : Nat} {mk la : Bool} {sh hw gi tk ss ts s2 t2 : Int32} {g2 : Nat → Int32} {E : String} {h' : AH} {n' : Nat} (z : LrP h w b2 G mk b sh hw gi tk ss ts la kd2 g2 e2 s2 t2 n (.inr E) h' n') : A := by cases z.1
/-- a SHELF and a WALK are otherwise -/
theorem rc_both {h h' : AH} {σ : CS} (hR : RC h σ) {k j c : Nat} {q : WT} {f : Nat → Int32} {s t : Int32} (hk : k < 6) (hj : j < 11) (hW : WkW h' (125 + k) q) (hS : ShF h' (102 + 2 * j) (kdO j) f c s t) (hF : ∀ i, i ≠ 125 + k → i ≠ 102 + 2 * j → i ≠ 102 + 2 * j + 1 → h' i = h i) : RC h' (wU (sU σ j f c s t) k q) := by
  have e1 : ∀ i, i ≠ 125 + k → up h' (125 + k) (h (125 + k)) i = h' i := fun i hi => up_n hi
  have F1 : FrS h (up h' (125 + k) (h (125 + k))) (102 + 2 * j) := by
    intro i h1 h2
    by_cases e : i = 125 + k
    · rw [e, up_s]
    · rw [e1 i e]
      exact hF i e h1 h2
  have S1 : ShF (up h' (125 + k) (h (125 + k))) (102 + 2 * j) (kdO j) f c s t := ⟨(e1 _ (by omega)).trans hS.1, (e1 _ (by omega)).trans hS.2.1, hS.2.2⟩
  exact (hR.sU hj S1 F1).wU hk hW (fun i hi => (e1 i hi).symm)
def krU (σ : CS) (k j A G : Nat) : CS := wU (kpU σ j (wO σ k) A) k ((σ.2.2.2.2.1 k).1, wO σ k, (σ.2.2.2.2.1 k).2.2.1, (σ.2.2.2.2.1 k).2.2.2.1 + nI G, (σ.2.2.2.2.1 k).2.2.2.2.1, (σ.2.2.2.2.1 k).2.2.2.2.2.1, if G = 0 then (σ.2.2.2.2.1 k).2.2.2.2.2.2.1 else σ.2.2.2.1 (wO σ k), if G = 0 then (σ.2.2.2.2.1 k).2.2.2.2.2.2.2 else true)
def wGa (σ : CS) (k : Nat) : Bool := !wSt σ k && decide ((σ.2.2.2.2.1 k).2.2.1 ≠ 1)
def opKeepRest (σ : CS) (a b : Int32) : ARes × CS := onWk a σ (fun k => onLi b σ (fun j => if (σ.2.2.2.2.1 k).1 = false then (xS, σ) else if wGa σ k = false ∨ nI (wO σ k) = nI j then (rI (-9), rfU σ) else (rI (nI (wGu σ k 12)), krU σ k j (wAh σ k).toNatClampNeg (wGu σ k 12))))
def opPourRest (σ : CS) (a b : Int32) : ARes × CS := onWk a σ (fun k => onSh b σ (fun j => if (σ.2.2.2.2.1 k).1 = false then (xS, σ) else if 12 < nI (σ.2.1 j) + nI (σ.2.1 (wO σ k)) then (xS, σ) else if wGa σ k = false ∨ cpB σ (wO σ k) j = true then (rI (-9), rfU σ) else (rI (nI (wGu σ k 12)), (pbM (wO σ k) j (wAh σ k).toNatClampNeg (σ.2.1 (wO σ k) - (wAh σ k).toNatClampNeg) false (gvU σ k (wGu σ k 12))).2)))
theorem wi_at {σ : CS} {k : Nat} (hV : WI σ k) (q : ¬ (σ.2.2.2.2.1 k).1 = false) (e : wGa σ k = true) : ∃ A : Nat, wAh σ k = nI A ∧ A ≤ σ.2.1 (wO σ k) := by
  have c1 : (σ.2.2.2.2.1 k).1 = true := by
    cases e : (σ.2.2.2.2.1 k).1 with
    | false => exact absurd e q
    | true => rfl
  have c2 : wSt σ k = false := by
    cases e9 : wSt σ k with
    | false => rfl
    | true => rw [wGa, e9] at e; cases e
  obtain ⟨A, h1, h2, -⟩ := hV c1 c2
  exact ⟨A, h1, h2⟩
theorem m_listRest {h : AH} {b kd c b2 kd2 c2 A d bc bs n w : Nat} {f g : Nat → Int32} {s t s2 t2 sh hw gi tk ss ts : Int32} {mk la : Bool} (hW : WkF h w mk b sh hw gi tk ss ts la) (hS : ShF h b kd f c s t) (gS : ShF h b2 kd2 g c2 s2 t2) (hne : (b ≠ w ∧ b + 1 ≠ w) ∧ b2 ≠ w ∧ b2 + 1 ≠ w) (hb : b2 + 2 ≤ b ∨ b + 2 ≤ b2) (eA : gi - tk = nI A) (hA : A ≤ c) (hd : 3 ≤ d) : SM SR0 MX3_listRest d bc bs [.ref w, .ref b2] h n (LrP h w b2 (guN c s tk ss gi 12) mk b sh hw (gi + nI (guN c s tk ss gi 12)) tk ss (if (guN c s tk ss gi 12) = 0 then ts else t) (if (guN c s tk ss gi 12) = 0 then la else true) kd2 (blN g f A (c - A)) (c - A) (s2 + 1) t2 n) := by
  refine sm_of pn_Overwalks rfl (Nat.le_of_ble_eq_true rfl) ?_
  refine sw_aload_n (pc' := 1) rfl dX3_listRest_0 rfl ?_
  refine sw_aload_n (pc' := 2) rfl dX3_listRest_1 rfl ?_
  refine sw_getf (ci := 3) (k := 1) (pc' := 5) rfl dX3_listRest_2 (by decide +kernel) w_120 hW.1 rfl ?_
  refine sw_aload_n (pc' := 6) rfl dX3_listRest_5 rfl ?_
  refine sw_V (M' := MX2_ahead) (d' := d - 1) (bc' := 0) (bs' := 0) (ci := 3) (as := []) dX3_listRest_6 w_215 ok_X2_ahead (m_ahead hW) hW.1 rfl (by omega) (Nat.le_of_ble_eq_true rfl) (Nat.zero_le _) (Nat.zero_le _) (fun E h' n' _ z => det_x z) (det_k ?_)
  rw [eA]
  refine sw_V (M' := MX1_becomeListOf) (d' := d - 1) (bc' := 0) (bs' := 0) (ci := 2) (as := [_, _]) dX3_listRest_9 w_216 ok_X1_becomeListOf (m_becomeListOf gS hS (by omega) (by omega) hA) gS.1 rfl (by omega) (Nat.le_of_ble_eq_true rfl) (Nat.zero_le _) (Nat.zero_le _) (fun E h' n' _ z => shp_x z) (shp_k (fun p pS pF => ?_))
  have W1 := hW.frS pF (by omega)
  have S1 := hS.fr pF hb
  refine sw_aload_n (pc' := 13) rfl dX3_listRest_12 rfl ?_
  refine sw_bipush (pc' := 15) (v := 12) rfl dX3_listRest_13 (by decide +kernel) ?_
  refine sw_V (M' := MX2_giveUpTo) (d' := d - 1) (bc' := 0) (bs' := 0) (ci := 3) (as := [_]) dX3_listRest_15 w_221 ok_X2_giveUpTo (m_giveUpTo (m := 12) W1 S1 hne.1 (by omega) (by decide +kernel)) W1.1 rfl (by omega) (Nat.le_of_ble_eq_true rfl) (Nat.zero_le _) (Nat.zero_le _) (fun E h' n' _ z => wkp_x z) (wkp_k (fun o oW oF => ?_))
  refine sw_ret (v := some _) ⟨dX3_listRest_18, _, rfl, rfl⟩ ?_
  exact ⟨rfl, rfl, oW, pS.frW oF hne.2, fun i h1 h2 h3 => (oF i h1).trans (pF i h2 h3)⟩
theorem m_keepRest {h : AH} {σ : CS} {d bc bs n : Nat} {a b : Int32} (hR : RC h σ) (hd : 6 ≤ d) (hb1 : 20 ≤ bc) (hb2 : 200 ≤ bs) (hV : ∀ k, k < 6 → WI σ k) : SM SR0 MX3_keepRest d bc bs [.ref 100, .int a, .int b] h n (CP h n (opKeepRest σ a b)) := by
  refine sm_of pn_Overwalks rfl (Nat.le_of_ble_eq_true rfl) ?_
  refine sw_aload_n (pc' := 1) rfl dX3_keepRest_0 rfl ?_
  refine sw_iload_n (pc' := 2) rfl dX3_keepRest_1 rfl ?_
  rcases idxN 6 (by decide +kernel) a with q2 | ⟨k2, hk2, q2⟩
  · refine sw_V (M' := MX3_walkAt) (d' := d - 1) (bc' := 1) (bs' := 6) (ci := 4) (as := [_]) dX3_keepRest_2 w_357 ok_X3_walkAt (m_walkAt_x hR (Nat.le_refl _) (Nat.le_refl _) q2) hR.1 rfl (by omega) (Nat.le_of_ble_eq_true rfl) (by omega) (by omega) (dx_x (swx_out rfl ?_)) (fun v h' n' _ z => dx_k z)
    rw [opKeepRest, onWk_x q2]
    exact ⟨rfl, rfl, hR, FrC.rf⟩
  subst q2
  refine sw_V (M' := MX3_walkAt) (d' := d - 1) (bc' := 1) (bs' := 6) (ci := 4) (as := [_]) dX3_keepRest_2 w_357 ok_X3_walkAt (m_walkAt_k hR (Nat.le_refl _) (Nat.le_refl _) hk2) hR.1 rfl (by omega) (Nat.le_of_ble_eq_true rfl) (by omega) (by omega) (fun E h' n' _ z => det_x z) (det_k ?_)
  refine sw_astore_n (pc' := 6) (lv' := [(3, _), (0, _), (1, _), (2, _)]) rfl dX3_keepRest_5 (by decide +kernel) rfl ?_
  refine sw_aload_n (pc' := 7) rfl dX3_keepRest_6 rfl ?_
  refine sw_iload_n (pc' := 8) rfl dX3_keepRest_7 rfl ?_
  rcases Classical.em (b < 8) with q8 | q8
  · refine sw_V (M' := MX3_listAt) (d' := d - 1) (bc' := 2) (bs' := 12) (ci := 4) (as := [_]) dX3_keepRest_8 w_959 ok_X3_listAt (m_listAt_x hR (Nat.le_refl _) (Nat.le_refl _) (by omega) q8) hR.1 rfl (by omega) (Nat.le_of_ble_eq_true rfl) (by omega) (by omega) (dx_x (swx_out rfl ?_)) (fun v h' n' _ z => dx_k z)
    rw [opKeepRest, onWk_k hk2, onLi_x q8]
    exact ⟨rfl, rfl, hR, FrC.rf⟩
  rcases idxN 11 (by decide +kernel) b with q8b | ⟨k8, hk8, q8b⟩
  · refine sw_V (M' := MX3_listAt) (d' := d - 1) (bc' := 2) (bs' := 12) (ci := 4) (as := [_]) dX3_keepRest_8 w_959 ok_X3_listAt (m_listAt_y hR (Nat.le_refl _) (Nat.le_refl _) (by omega) q8 q8b) hR.1 rfl (by omega) (Nat.le_of_ble_eq_true rfl) (by omega) (by omega) (dx_x (swx_out rfl ?_)) (fun v h' n' _ z => dx_k z)
    rw [opKeepRest, onWk_k hk2, onLi_y q8 q8b]
    exact ⟨rfl, rfl, hR, FrC.rf⟩
  subst q8b
  refine sw_V (M' := MX3_listAt) (d' := d - 1) (bc' := 2) (bs' := 12) (ci := 4) (as := [_]) dX3_keepRest_8 w_959 ok_X3_listAt (m_listAt_k hR (Nat.le_refl _) (Nat.le_refl _) (by omega) q8 hk8) hR.1 rfl (by omega) (Nat.le_of_ble_eq_true rfl) (by omega) (by omega) (fun E h' n' _ z => det_x z) (det_k ?_)
  refine sw_astore (pc' := 13) (lv' := [(4, _), (3, _), (0, _), (1, _), (2, _)]) rfl dX3_keepRest_11 (by decide +kernel) rfl ?_
  refine sw_aload_n (pc' := 14) rfl dX3_keepRest_13 rfl ?_
  rcases Classical.em ((σ.2.2.2.2.1 k2).1 = false) with q14 | q14
  · refine sw_S (M' := MX3_requireMade) (d' := d - 1) (bc' := 1) (bs' := 6) (as := [_]) dX3_keepRest_14 w_640 ok_X3_requireMade (m_requireMade_x (hR.wk hk2).2 (Nat.le_refl _) (Nat.le_refl _) q14) (by omega) (Nat.le_of_ble_eq_true rfl) (by omega) (by omega) (dx_x (swx_out rfl ?_)) (fun v h' n' _ z => dx_k z)
    rw [opKeepRest, onWk_k hk2, onLi_k q8 hk8, if_pos q14]
    exact ⟨rfl, rfl, hR, FrC.rf⟩
  refine sw_S (M' := MX3_requireMade) (d' := d - 1) (bc' := 1) (bs' := 6) (as := [_]) dX3_keepRest_14 w_640 ok_X3_requireMade (m_requireMade_k (hR.wk hk2).2 (Nat.le_refl _) (Nat.le_refl _) q14) (by omega) (Nat.le_of_ble_eq_true rfl) (by omega) (by omega) (fun E h' n' _ z => det_x z) (det_k ?_)
  refine sw_aload_n (pc' := 18) rfl dX3_keepRest_17 rfl ?_
  refine sw_V (M' := MX2_canGiveAll) (d' := d - 1) (bc' := 0) (bs' := 0) (ci := 3) (as := []) dX3_keepRest_18 w_673 ok_X2_canGiveAll (m_canGiveAll (hR.wk hk2).2 (hR.sh (hR.wk hk2).1) (by omega)) (hR.wk hk2).2.1 rfl (by omega) (Nat.le_of_ble_eq_true rfl) (by omega) (by omega) (fun E h' n' _ z => det_x z) (det_k ?_)
  refine sw_if_eq (pc' := 24) (tgt := 32) rfl dX3_keepRest_21 (by decide +kernel) (fun c21 => ?_) (fun c21 => ?_)
  · refine sw_aload_n (pc' := 33) rfl dX3_keepRest_32 rfl ?_
    refine sw_V (M' := MX3_refuse) (d' := d - 1) (bc' := 0) (bs' := 0) (ci := 4) (as := []) dX3_keepRest_33 w_439 ok_X3_refuse (m_refuse hR) hR.1 rfl (by omega) (Nat.le_of_ble_eq_true rfl) (by omega) (by omega) (fun E h' n' _ z => cp_x z) (cp_k (fun p33 p33R p33F => ?_))
    refine sw_ret (v := some _) ⟨dX3_keepRest_36, _, rfl, rfl⟩ ?_
    rw [opKeepRest, onWk_k hk2, onLi_k q8 hk8, if_neg q14, if_pos (Or.inl (show wGa σ k2 = false from bI_0 c21))]
    exact ⟨rfl, rfl, p33R, p33F⟩
  · refine sw_aload_n (pc' := 25) rfl dX3_keepRest_24 rfl ?_
    refine sw_getf (ci := 3) (k := 2) (pc' := 28) rfl dX3_keepRest_25 (by decide +kernel) w_122 (hR.wk hk2).2.1 rfl ?_
    refine sw_iload_n (pc' := 29) rfl dX3_keepRest_28 rfl ?_
    refine sw_icmp_ne (pc' := 32) (tgt := 37) rfl dX3_keepRest_29 (by decide +kernel) (fun c29 => ?_) (fun c29 => ?_)
    · refine sw_aload_n (pc' := 38) rfl dX3_keepRest_37 rfl ?_
      refine sw_aload (pc' := 40) rfl dX3_keepRest_38 rfl ?_
      have ov : wO σ k2 < 11 := (hR.wk hk2).1
      obtain ⟨A, eA, hA⟩ := wi_at (hV k2 hk2) q14 (bI_1 c21 : wGa σ k2 = true)
      have hne : (σ.2.2.2.2.1 k2).2.1 ≠ k8 := fun e => c29 (congrArg nI e)
      have ov2 : (σ.2.2.2.2.1 k2).2.1 < 11 := ov
      refine sw_S (M' := MX3_listRest) (d' := d - 1) (bc' := 0) (bs' := 0) (as := [_, _]) dX3_keepRest_40 w_212 ok_X3_listRest (m_listRest (hR.wk hk2).2 (hR.sh ov) (hR.sh hk8) (by omega) (by omega) eA hA (by omega)) (by omega) (Nat.le_of_ble_eq_true rfl) (Nat.zero_le _) (Nat.zero_le _) (fun E h' n' _ z => lr_x z) (lr_k (fun p pW pS pF => ?_))
      refine sw_ret (v := some _) ⟨dX3_keepRest_43, _, rfl, rfl⟩ ?_
      rw [opKeepRest, onWk_k hk2, onLi_k q8 hk8, if_neg q14, if_neg (fun q => q.elim (fun e => Bool.noConfusion (e.symm.trans (show wGa σ k2 = true from bI_1 c21))) (fun e => c29 e)), show (wAh σ k2).toNatClampNeg = A from by rw [eA, nI_clamp (by have := (hR.sh ov).2.2.1; omega)]]
      exact ⟨rfl, rfl, rc_both hR (q := ((σ.2.2.2.2.1 k2).1, wO σ k2, (σ.2.2.2.2.1 k2).2.2.1, (σ.2.2.2.2.1 k2).2.2.2.1 + nI (wGu σ k2 12), (σ.2.2.2.2.1 k2).2.2.2.2.1, (σ.2.2.2.2.1 k2).2.2.2.2.2.1, if wGu σ k2 12 = 0 then (σ.2.2.2.2.1 k2).2.2.2.2.2.2.1 else σ.2.2.2.1 (wO σ k2), if wGu σ k2 12 = 0 then (σ.2.2.2.2.1 k2).2.2.2.2.2.2.2 else true)) hk2 hk8 ⟨ov, pW⟩ pS pF, fun i h1 _ => pF i (by omega) (by omega) (by omega)⟩
    · refine sw_aload_n (pc' := 33) rfl dX3_keepRest_32 rfl ?_
      refine sw_V (M' := MX3_refuse) (d' := d - 1) (bc' := 0) (bs' := 0) (ci := 4) (as := []) dX3_keepRest_33 w_439 ok_X3_refuse (m_refuse hR) hR.1 rfl (by omega) (Nat.le_of_ble_eq_true rfl) (by omega) (by omega) (fun E h' n' _ z => cp_x z) (cp_k (fun p33 p33R p33F => ?_))
      refine sw_ret (v := some _) ⟨dX3_keepRest_36, _, rfl, rfl⟩ ?_
      rw [opKeepRest, onWk_k hk2, onLi_k q8 hk8, if_neg q14, if_pos (Or.inr (show nI (wO σ k2) = nI k8 from c29))]
      exact ⟨rfl, rfl, p33R, p33F⟩
theorem m_pourRest {h : AH} {σ : CS} {d bc bs n : Nat} {a b : Int32} (hR : RC h σ) (hd : 6 ≤ d) (hb1 : 20 ≤ bc) (hb2 : 200 ≤ bs) (hV : ∀ k, k < 6 → WI σ k) : SM SR0 MX3_pourRest d bc bs [.ref 100, .int a, .int b] h n (CP h n (opPourRest σ a b)) := by
  refine sm_of pn_Overwalks rfl (Nat.le_of_ble_eq_true rfl) ?_
  refine sw_aload_n (pc' := 1) rfl dX3_pourRest_0 rfl ?_
  refine sw_iload_n (pc' := 2) rfl dX3_pourRest_1 rfl ?_
  rcases idxN 6 (by decide +kernel) a with q2 | ⟨k2, hk2, q2⟩
  · refine sw_V (M' := MX3_walkAt) (d' := d - 1) (bc' := 1) (bs' := 6) (ci := 4) (as := [_]) dX3_pourRest_2 w_357 ok_X3_walkAt (m_walkAt_x hR (Nat.le_refl _) (Nat.le_refl _) q2) hR.1 rfl (by omega) (Nat.le_of_ble_eq_true rfl) (by omega) (by omega) (dx_x (swx_out rfl ?_)) (fun v h' n' _ z => dx_k z)
    rw [opPourRest, onWk_x q2]
    exact ⟨rfl, rfl, hR, FrC.rf⟩
  subst q2
  refine sw_V (M' := MX3_walkAt) (d' := d - 1) (bc' := 1) (bs' := 6) (ci := 4) (as := [_]) dX3_pourRest_2 w_357 ok_X3_walkAt (m_walkAt_k hR (Nat.le_refl _) (Nat.le_refl _) hk2) hR.1 rfl (by omega) (Nat.le_of_ble_eq_true rfl) (by omega) (by omega) (fun E h' n' _ z => det_x z) (det_k ?_)
  refine sw_astore_n (pc' := 6) (lv' := [(3, _), (0, _), (1, _), (2, _)]) rfl dX3_pourRest_5 (by decide +kernel) rfl ?_
  refine sw_aload_n (pc' := 7) rfl dX3_pourRest_6 rfl ?_
  refine sw_iload_n (pc' := 8) rfl dX3_pourRest_7 rfl ?_
  rcases idxN 11 (by decide +kernel) b with q8 | ⟨k8, hk8, q8⟩
  · refine sw_V (M' := MX3_shelfAt) (d' := d - 1) (bc' := 1) (bs' := 6) (ci := 4) (as := [_]) dX3_pourRest_8 w_402 ok_X3_shelfAt (m_shelfAt_x hR (Nat.le_refl _) (Nat.le_refl _) q8) hR.1 rfl (by omega) (Nat.le_of_ble_eq_true rfl) (by omega) (by omega) (dx_x (swx_out rfl ?_)) (fun v h' n' _ z => dx_k z)
    rw [opPourRest, onWk_k hk2, onSh_x q8]
    exact ⟨rfl, rfl, hR, FrC.rf⟩
  subst q8
  refine sw_V (M' := MX3_shelfAt) (d' := d - 1) (bc' := 1) (bs' := 6) (ci := 4) (as := [_]) dX3_pourRest_8 w_402 ok_X3_shelfAt (m_shelfAt_k hR (Nat.le_refl _) (Nat.le_refl _) hk8) hR.1 rfl (by omega) (Nat.le_of_ble_eq_true rfl) (by omega) (by omega) (fun E h' n' _ z => det_x z) (det_k ?_)
  refine sw_astore (pc' := 13) (lv' := [(4, _), (3, _), (0, _), (1, _), (2, _)]) rfl dX3_pourRest_11 (by decide +kernel) rfl ?_
  refine sw_aload_n (pc' := 14) rfl dX3_pourRest_13 rfl ?_
  rcases Classical.em ((σ.2.2.2.2.1 k2).1 = false) with q14 | q14
  · refine sw_S (M' := MX3_requireMade) (d' := d - 1) (bc' := 1) (bs' := 6) (as := [_]) dX3_pourRest_14 w_640 ok_X3_requireMade (m_requireMade_x (hR.wk hk2).2 (Nat.le_refl _) (Nat.le_refl _) q14) (by omega) (Nat.le_of_ble_eq_true rfl) (by omega) (by omega) (dx_x (swx_out rfl ?_)) (fun v h' n' _ z => dx_k z)
    rw [opPourRest, onWk_k hk2, onSh_k hk8, if_pos q14]
    exact ⟨rfl, rfl, hR, FrC.rf⟩
  refine sw_S (M' := MX3_requireMade) (d' := d - 1) (bc' := 1) (bs' := 6) (as := [_]) dX3_pourRest_14 w_640 ok_X3_requireMade (m_requireMade_k (hR.wk hk2).2 (Nat.le_refl _) (Nat.le_refl _) q14) (by omega) (Nat.le_of_ble_eq_true rfl) (by omega) (by omega) (fun E h' n' _ z => det_x z) (det_k ?_)
  refine sw_aload (pc' := 19) rfl dX3_pourRest_17 rfl ?_
  refine sw_aload_n (pc' := 20) rfl dX3_pourRest_19 rfl ?_
  refine sw_getf (ci := 3) (k := 1) (pc' := 23) rfl dX3_pourRest_20 (by decide +kernel) w_120 (hR.wk hk2).2.1 rfl ?_
  refine sw_getf (ci := 2) (k := 2) (pc' := 26) rfl dX3_pourRest_23 (by decide +kernel) w_84 (hR.sh (hR.wk hk2).1).1 rfl ?_
  rcases Classical.em (12 < nI (σ.2.1 k8) + nI (σ.2.1 (wO σ k2))) with q26 | q26
  · refine sw_S (M' := MX3_requireRoom) (d' := d - 1) (bc' := 1) (bs' := 6) (as := [_, _]) dX3_pourRest_26 w_411 ok_X3_requireRoom (m_requireRoom_x (hR.sh hk8) (Nat.le_refl _) (Nat.le_refl _) q26) (by omega) (Nat.le_of_ble_eq_true rfl) (by omega) (by omega) (dx_x (swx_out rfl ?_)) (fun v h' n' _ z => dx_k z)
    rw [opPourRest, onWk_k hk2, onSh_k hk8, if_neg q14, if_pos q26]
    exact ⟨rfl, rfl, hR, FrC.rf⟩
  refine sw_S (M' := MX3_requireRoom) (d' := d - 1) (bc' := 1) (bs' := 6) (as := [_, _]) dX3_pourRest_26 w_411 ok_X3_requireRoom (m_requireRoom_k (hR.sh hk8) (Nat.le_refl _) (Nat.le_refl _) q26) (by omega) (Nat.le_of_ble_eq_true rfl) (by omega) (by omega) (fun E h' n' _ z => det_x z) (det_k ?_)
  refine sw_aload_n (pc' := 30) rfl dX3_pourRest_29 rfl ?_
  refine sw_V (M' := MX2_canGiveAll) (d' := d - 1) (bc' := 0) (bs' := 0) (ci := 3) (as := []) dX3_pourRest_30 w_673 ok_X2_canGiveAll (m_canGiveAll (hR.wk hk2).2 (hR.sh (hR.wk hk2).1) (by omega)) (hR.wk hk2).2.1 rfl (by omega) (Nat.le_of_ble_eq_true rfl) (by omega) (by omega) (fun E h' n' _ z => det_x z) (det_k ?_)
  refine sw_if_eq (pc' := 36) (tgt := 48) rfl dX3_pourRest_33 (by decide +kernel) (fun c33 => ?_) (fun c33 => ?_)
  · refine sw_aload_n (pc' := 49) rfl dX3_pourRest_48 rfl ?_
    refine sw_V (M' := MX3_refuse) (d' := d - 1) (bc' := 0) (bs' := 0) (ci := 4) (as := []) dX3_pourRest_49 w_439 ok_X3_refuse (m_refuse hR) hR.1 rfl (by omega) (Nat.le_of_ble_eq_true rfl) (by omega) (by omega) (fun E h' n' _ z => cp_x z) (cp_k (fun p49 p49R p49F => ?_))
    refine sw_ret (v := some _) ⟨dX3_pourRest_52, _, rfl, rfl⟩ ?_
    rw [opPourRest, onWk_k hk2, onSh_k hk8, if_neg q14, if_neg (show ¬ 12 < nI (σ.2.1 k8) + nI (σ.2.1 (wO σ k2)) from q26), if_pos (Or.inl (show wGa σ k2 = false from bI_0 c33))]
    exact ⟨rfl, rfl, p49R, p49F⟩
  · refine sw_aload_n (pc' := 37) rfl dX3_pourRest_36 rfl ?_
    refine sw_getf (ci := 3) (k := 1) (pc' := 40) rfl dX3_pourRest_37 (by decide +kernel) w_120 (hR.wk hk2).2.1 rfl ?_
    refine sw_aload (pc' := 42) rfl dX3_pourRest_40 rfl ?_
    have ov : wO σ k2 < 11 := (hR.wk hk2).1
    refine sw_S (M' := MX3_cannotPour) (d' := d - 1) (bc' := 0) (bs' := 0) (as := [_, _]) dX3_pourRest_42 w_524 ok_X3_cannotPour (m_cannotPour (hR.sh ov) (hR.sh hk8) (hR.kd kdO_r) (by omega)) (by omega) (Nat.le_of_ble_eq_true rfl) (Nat.zero_le _) (Nat.zero_le _) (fun E h' n' _ z => det_x z) (det_k ?_)
    refine sw_if_eq (pc' := 48) (tgt := 53) rfl dX3_pourRest_45 (by decide +kernel) (fun c45 => ?_) (fun c45 => ?_)
    · obtain ⟨A, eA, hA⟩ := wi_at (hV k2 hk2) q14 (bI_1 c33 : wGa σ k2 = true)
      have hrm := nI_room (hR.sh hk8).2.2.1 (hR.sh ov).2.2.1 q26
      refine sw_aload_n (pc' := 54) rfl dX3_pourRest_53 rfl ?_
      refine sw_V (M' := MX2_ahead) (d' := d - 1) (bc' := 0) (bs' := 0) (ci := 3) (as := []) dX3_pourRest_54 w_215 ok_X2_ahead (m_ahead (hR.wk hk2).2) (hR.wk hk2).2.1 rfl (by omega) (Nat.le_of_ble_eq_true rfl) (by omega) (by omega) (fun E h' n' _ z => det_x z) (det_k ?_)
      refine sw_istore (pc' := 59) (lv' := [(5, _), (4, _), (3, _), (0, _), (1, _), (2, _)]) rfl dX3_pourRest_57 (by decide +kernel) rfl ?_
      rw [show (σ.2.2.2.2.1 k2).2.2.2.1 - (σ.2.2.2.2.1 k2).2.2.2.2.1 = nI A from eA]
      refine sw_aload_n (pc' := 60) rfl dX3_pourRest_59 rfl ?_
      refine sw_bipush (pc' := 62) (v := 12) rfl dX3_pourRest_60 (by decide +kernel) ?_
      have ov2 : (σ.2.2.2.2.1 k2).2.1 < 11 := ov
      refine sw_V (M' := MX2_giveUpTo) (d' := d - 1) (bc' := 0) (bs' := 0) (ci := 3) (as := [_]) dX3_pourRest_62 w_221 ok_X2_giveUpTo (m_giveUpTo (m := 12) (hR.wk hk2).2 (hR.sh ov) (by omega) (by omega) (by decide +kernel)) (hR.wk hk2).2.1 rfl (by omega) (Nat.le_of_ble_eq_true rfl) (Nat.zero_le _) (Nat.zero_le _) (fun E h' n' _ z => wkp_x z) (wkp_k (fun p62 p62W p62F => ?_))
      have p62R : RC p62 (gvU σ k2 (wGu σ k2 12)) := hR.wU hk2 ⟨ov, p62W⟩ p62F
      refine sw_istore (pc' := 67) (lv' := [(6, _), (5, _), (4, _), (3, _), (0, _), (1, _), (2, _)]) rfl dX3_pourRest_65 (by decide +kernel) rfl ?_
      refine sw_aload_n (pc' := 68) rfl dX3_pourRest_67 rfl ?_
      refine sw_getf (ci := 3) (k := 1) (pc' := 71) rfl dX3_pourRest_68 (by decide +kernel) w_120 p62W.1 rfl ?_
      refine sw_iload (pc' := 73) rfl dX3_pourRest_71 rfl ?_
      refine sw_aload (pc' := 75) rfl dX3_pourRest_73 rfl ?_
      refine sw_S (M' := MX3_pourBehind) (d' := d - 1) (bc' := 0) (bs' := 0) (as := [_, _, _]) dX3_pourRest_75 w_531 ok_X3_pourBehind (m_pourBehind (i := A) p62R ov hk8 hA (by show σ.2.1 k8 + (σ.2.1 (wO σ k2) - A) ≤ 12; omega) (by omega)) (by omega) (Nat.le_of_ble_eq_true rfl) (Nat.zero_le _) (Nat.zero_le _) (fun E h' n' _ z => cp_x z) (cp_k (fun p pR pF => ?_))
      refine sw_pop (pc' := 79) rfl dX3_pourRest_78 rfl ?_
      refine sw_iload (pc' := 81) rfl dX3_pourRest_79 rfl ?_
      refine sw_ret (v := some _) ⟨dX3_pourRest_81, _, rfl, rfl⟩ ?_
      rw [opPourRest, onWk_k hk2, onSh_k hk8, if_neg q14, if_neg (show ¬ 12 < nI (σ.2.1 k8) + nI (σ.2.1 (wO σ k2)) from q26), if_neg (fun q => q.elim (fun e => Bool.noConfusion (e.symm.trans (show wGa σ k2 = true from bI_1 c33))) (fun e => Bool.noConfusion (e.symm.trans (show cpB σ (wO σ k2) k8 = false from bI_0 c45)))), show (wAh σ k2).toNatClampNeg = A from by rw [eA, nI_clamp (by have := (hR.sh ov).2.2.1; omega)]]
      exact ⟨rfl, rfl, pR, (p62F.c (by omega) (by omega)).tr pF (Nat.le_refl _)⟩
    · refine sw_aload_n (pc' := 49) rfl dX3_pourRest_48 rfl ?_
      refine sw_V (M' := MX3_refuse) (d' := d - 1) (bc' := 0) (bs' := 0) (ci := 4) (as := []) dX3_pourRest_49 w_439 ok_X3_refuse (m_refuse hR) hR.1 rfl (by omega) (Nat.le_of_ble_eq_true rfl) (by omega) (by omega) (fun E h' n' _ z => cp_x z) (cp_k (fun p49 p49R p49F => ?_))
      refine sw_ret (v := some _) ⟨dX3_pourRest_52, _, rfl, rfl⟩ ?_
      rw [opPourRest, onWk_k hk2, onSh_k hk8, if_neg q14, if_neg (show ¬ 12 < nI (σ.2.1 k8) + nI (σ.2.1 (wO σ k2)) from q26), if_pos (Or.inr (show cpB σ (wO σ k2) k8 = true from bI_1 c45))]
      exact ⟨rfl, rfl, p49R, p49F⟩
