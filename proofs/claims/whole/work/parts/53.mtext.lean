/-! the model's text calls -/
/-- the end of a text call of the model -/
def PT (h : AH) (n : Nat) (t : ARes → Int32) (q : ARes × CS) (c : List Int32) : ARes → AH → Nat → Prop := fun r' h' n' => n ≤ n' ∧ (∃ x, r' = .inl (some (.ref x)) ∧ (q.1 = ivN → ∃ L, L ≤ 200 ∧ StN h' n' n x L c)) ∧ RMo h' q.2 (t q.1) ∧ FrM h h' n
theorem pt_x {h p : AH} {n n' x : Nat} {t : ARes → Int32} {σ : CS} {E : String} {th : Int32} {ρ : Nat → Nat → Int32} {τ : Nat → Int32} {c : List Int32} (e : t (.inr E) = th) (pM : MM p ρ τ σ th) (pA : AG ρ τ σ) (pF : FrM h p n) (hn : n ≤ n') : PT h n t (.inr E, σ) c (.inl (some (.ref x))) p n' := ⟨hn, ⟨x, rfl, fun e => by cases e⟩, ⟨ρ, τ, e ▸ pM, pA⟩, pF⟩
theorem pt_k {h p : AH} {n n' x L : Nat} {a b : String} {σ : CS} {v : Option Value} {ρ : Nat → Nat → Int32} {τ : Nat → Int32} {c : List Int32} (pM : MM p ρ τ σ 0) (pA : AG ρ τ σ) (pF : FrM h p n) (hn : n ≤ n') (hL : L ≤ 200) (hS : StN p n' n x L c) : PT h n (tc a b) (.inl v, σ) c (.inl (some (.ref x))) p n' := ⟨hn, ⟨x, rfl, fun _ => ⟨L, hL, hS⟩⟩, ⟨ρ, τ, pM, pA⟩, pF⟩
theorem ptc_k {A : Nat → AH → Option Value → Prop} {h : AH} {n m : Nat} {t : ARes → Int32} {q : ARes × CS} {c : List Int32} (k : ∀ h' n' x, PT h n t q c (.inl (some (.ref x))) h' n' → A n' h' (some (.ref x))) : ∀ (v : Option Value) (h' : AH) (n' : Nat), m ≤ n' → PT h n t q c (.inl v) h' n' → A n' h' v := by
  rintro v h' n' - z
  obtain ⟨-, ⟨x, e, -⟩, -⟩ := id z
  cases e
  exact k h' n' x z
theorem ptc_x {A : Prop} {h : AH} {n : Nat} {t : ARes → Int32} {q : ARes × CS} {c : List Int32} {E : String} {h' : AH} {n' : Nat} (z : PT h n t q c (.inr E) h' n') : A := by
  obtain ⟨-, ⟨x, e, -⟩, -⟩ := z
  cases e
theorem StF.c {h : AH} {n n1 n0 t L : Nat} {c : List Int32} (hS : StF h 100 t L c) (hn : 100 ≤ n0) : StK h n n1 n0 t L c := (hS.fr (h' := h) (fun _ _ => rfl) hn).k
theorem StN.k0 {h : AH} {n n0 m t L : Nat} {c : List Int32} (hS : StN h n m t L c) : StK h n n n t L c := by
  obtain ⟨v, f, r, h1, h2, h3, h4, h5, h6, h7, h8⟩ := hS
  exact ⟨v, f, r, h1, h2, h3, Or.inl h5, Or.inl h7, h8⟩
theorem StN.fr {h h' : AH} {n n' m t L : Nat} {c : List Int32} (hS : StN h n m t L c) (hF : ∀ i, i < 100 ∨ m ≤ i → i < n → h' i = h i) (hn : n ≤ n') : StN h' n' m t L c := by
  obtain ⟨v, f, r, h1, h2, h3, h4, h5, h6, h7, h8⟩ := hS
  exact ⟨v, f, r, (hF t h4 h5).trans h1, (hF v h6 h7).trans h2, h3, h4, by omega, h6, by omega, h8⟩
theorem StN.len {h : AH} {n' n t L : Nat} {c : List Int32} (hS : StN h n' n t L c) : c.length = L := by
  obtain ⟨v, f, r, h1, h2, h3, h4, h5, h6, h7, h8⟩ := hS
  exact h8.len
theorem StK.nm {h : AH} {n n1 n0 t L : Nat} {c : List Int32} (hS : StK h n n1 n0 t L c) (h0 : n0 ≤ n) : StF h n t L c := by
  obtain ⟨v, f, r, h1, h2, h3, h4, h5, h6⟩ := hS
  exact ⟨v, f, r, h1, h2, h3, by omega, by omega, h6⟩
theorem dgt_le {k : Nat} : dgt k ≤ 2 := by unfold dgt; split <;> omega
def zc : Nat → Nat
  | 0 => 0
  | m + 1 => zc m + 106 + 30 * (11 - m)
theorem zc_s {m i : Nat} (h : i + (m + 1) = 12) : zc (m + 1) = zc m + 106 + 30 * i := by rw [zc, show 11 - m = i by omega]
theorem gv_ah {σ : CS} {k j m : Nat} (h : j ≠ k) : wAh (gvU σ k m) j = wAh σ j := by
  unfold wAh
  rw [gv_wk h]
theorem gv_st {σ : CS} {k j m : Nat} (h : j ≠ k) : wSt (gvU σ k m) j = wSt σ j := by
  unfold wSt wO
  rw [gv_wk h]
  rfl
theorem gv_wo {σ : CS} {k j m : Nat} (h : j ≠ k) : wO (gvU σ k m) j = wO σ j := by
  unfold wO
  rw [gv_wk h]
theorem q_sign {h : AH} {d bc bs n k : Nat} (hT : TXT h) (hk : k ≤ 100) (hn : 100 ≤ n) (hd : 8 ≤ d) (h1 : 6 ≤ bc) (h2 : 26 ≤ bs) : SM SR0 MX5_sign d bc bs [.int (nI k)] h n (TXo h n 2 (sgL k)) := by
  refine sm_of pn_OverwalksModel rfl (Nat.le_of_ble_eq_true rfl) ?_
  refine sw_iload_n (pc' := 1) rfl dX5_sign_0 rfl ?_
  refine sw_bipush (pc' := 3) (v := 100) rfl dX5_sign_1 (by decide +kernel) ?_
  refine sw_icmp_ne (pc' := 6) (tgt := 11) rfl dX5_sign_3 (by decide +kernel) (fun c3 => ?_) (fun c3 => ?_)
  · have k1 : k < 100 := by
      have k2 : k ≠ 100 := fun e => c3 (by rw [e]; rfl)
      omega
    refine sw_new (ci := 1) (pc' := 14) rfl dX5_sign_11 (by decide +kernel) w_1354 w_682 w_54 (by omega) (Nat.le_trans (Nat.le_of_ble_eq_true rfl) (show 4 ≤ _ by omega)) ?_
    refine sw_nm (fun g1 eg1 => ?_)
    have zg1 := (congrFun eg1 n).trans (up_s (h := h) (i := n))
    refine sw_dup (pc' := 15) rfl dX5_sign_14 rfl ?_
    have f1 : FN 1 = 4 := rfl
    refine sw_I (M' := MJ4_init_da8c8) (d' := d - 1) (bc' := 1) (bs' := 16) (as := []) dX5_sign_15 w_1355 ok_J4_init_da8c8 (j_initSB (n0 := n) zg1 (Nat.le_refl _) (Nat.lt_succ_self _) (by omega) (Nat.le_refl _) (Nat.le_refl _) (by omega)) (by omega) (Nat.le_of_ble_eq_true rfl) (by omega) (by omega) (fun E h' n' _ z => sbo_x z) (sbo_k (fun p pn pk pS pF => ?_))
    have pG : ∀ i, i < n → p i = h i := fun i hi => (pF i (Or.inl hi)).trans ((congrFun eg1 i).trans (up_n (by omega)))
    obtain ⟨a0, f0, fl0, hS0, -⟩ := id (pS)
    refine sw_ldcS (pc' := 20) rfl dX5_sign_18 (SRm 19 rfl) (by decide +kernel) ?_
    refine sw_V (M' := MJ4_append_15ec4) (d' := d - 1) (bc' := 1) (bs' := 0) (ci := 1) (as := [_]) dX5_sign_20 w_1356 ok_J4_append_15ec4 (j_appendS pS (Nat.le_refl _) (by omega) (by omega) ((hT.fr (fun i hi => pG i (by omega))).2.2.1.c (by omega)) (by omega) (by omega) (Nat.le_refl _) (by decide +kernel)) hS0 rfl (by omega) (Nat.le_of_ble_eq_true rfl) (by omega) (by omega) (fun E h' n' _ z => sbo_x z) (sbo_k (fun q qn qk qS qF => ?_))
    have qS : SbF q qn n n 0 16 ([] ++ []) := qS
    have qG : ∀ i, i < n → q i = h i := fun i hi => (qF i (Or.inl hi)).trans (pG i hi)
    obtain ⟨a1, f1, fl1, hS1, -⟩ := id qS
    refine sw_iload_n (pc' := 24) rfl dX5_sign_23 rfl ?_
    refine sw_V (M' := MJ4_append_bf812) (d' := d - 1) (bc' := 1) (bs' := 0) (ci := 1) (as := [_]) dX5_sign_24 w_1362 ok_J4_append_bf812 (j_appendI qS (Nat.le_refl _) (by omega) (by omega) (hT.fr (fun i hi => qG i (by omega))) k1 (by omega) (by omega) (Nat.le_refl _) (Nat.le_of_eq (grC_s (by have := dgt_le (k := k); omega)))) hS1 rfl (by omega) (Nat.le_of_ble_eq_true rfl) (by omega) (by omega) (fun E h' n' _ z => sbo_x z) (sbo_k (fun r rn rk rS rF => ?_))
    rw [show capN 16 (0 + dgt k) = 16 from capN_s (by have := dgt_le (k := k); omega)] at rS
    have rG : ∀ i, i < n → r i = h i := fun i hi => (rF i (Or.inl hi)).trans (qG i hi)
    obtain ⟨a2, f2, fl2, hS2, -⟩ := id rS
    have dgl := dgt_le (k := k)
    refine sw_V (M' := MJ4_toString_0e30d) (d' := d - 1) (bc' := 2) (bs' := (0 + dgt k + 4)) (ci := 1) (as := []) dX5_sign_27 w_1363 ok_J4_toString_0e30d (j_toString rS (by omega) (by omega) (Nat.le_refl _) (Nat.le_refl _) (by omega)) hS2 rfl (by omega) (Nat.le_of_ble_eq_true rfl) (by omega) (by omega) (fun E h' n' _ z => spo_x z) (spo_k (fun w wn t wk wS wF => ?_))
    refine sw_ret (v := some _) ⟨dX5_sign_30, _, rfl, Or.inl ⟨_, rfl⟩⟩ ?_
    rw [show sgL k = dgL k from if_neg (by omega)]
    exact ⟨by omega, t, _, rfl, by omega, wS.low (by omega), fun i hi => (wF i (by omega)).trans (rG i hi)⟩
  · refine sw_ldcS (pc' := 8) rfl dX5_sign_6 (SRm 22 rfl) (by decide +kernel) ?_
    refine sw_goto (tgt := 30) dX5_sign_8 (by decide +kernel) ?_
    refine sw_ret (v := some _) ⟨dX5_sign_30, _, rfl, Or.inl ⟨_, rfl⟩⟩ ?_
    rw [show sgL k = [45] from if_pos ((nI_eq (b := 100) (by omega) (by decide +kernel)).mp c3)]
    exact ⟨Nat.le_refl _, 52, 1, rfl, by omega, hT.2.2.2.2.1.n (by omega), fun _ _ => rfl⟩
theorem ql_text {h0 : AH} {d n z len : Nat} {g : Nat → Int32} (hT : TXT h0) (hz : h0 z = .inl (0, len, .inl g)) (hz0 : 100 ≤ z) (hzn : z < n) (hlen : len ≤ 12) (hg : ∀ j, j < len → ∃ x, x ≤ 100 ∧ g j = nI x) (hn : 100 ≤ n) (hd : 9 ≤ d) (m : Nat) : ∀ (i bc bs pn t L : Nat) (p : AH), i + m = len → n ≤ pn → StN p pn n t L (txL g i) → L ≤ 3 * i → (∀ j, j < n → p j = h0 j) → 13 * m ≤ bc → 220 * m ≤ bs → SW SR0 MX5_text d bc bs 5 [(2, .int (nI i)), (1, .ref t), (0, .ref z)] [] p pn (TXo h0 n 36 (txL g len)) := by
  induction m with
  | zero =>
    intro i bc bs pn t L p hi hnp hS hL hF h1 h2
    refine sw_iload_n (pc' := 6) rfl dX5_text_5 rfl ?_
    refine sw_aload_n (pc' := 7) rfl dX5_text_6 rfl ?_
    refine sw_alen (pc' := 8) rfl dX5_text_7 ((hF z hzn).trans hz) (by decide +kernel) (Or.inl (by show 100 ≤ _; omega)) ?_
    refine sw_icmp_ge (pc' := 11) (tgt := 55) rfl dX5_text_8 (by decide +kernel) (fun c8 => ?_) (fun c8 => ?_)
    · refine sw_aload_n (pc' := 56) rfl dX5_text_55 rfl ?_
      refine sw_ret (v := some _) ⟨dX5_text_56, _, rfl, Or.inl ⟨_, rfl⟩⟩ ?_
      rw [← (show i = len from hi)]
      exact ⟨hnp, t, L, rfl, by omega, hS, hF⟩
    · exact absurd ((nI_leI (by omega) (by omega)).mpr (by omega)) c8
  | succ m ih =>
    intro i bc bs pn t L p hi hnp hS hL hF h1 h2
    obtain ⟨x, hx, ex⟩ := hg i (by omega)
    refine sw_iload_n (pc' := 6) rfl dX5_text_5 rfl ?_
    refine sw_aload_n (pc' := 7) rfl dX5_text_6 rfl ?_
    refine sw_alen (pc' := 8) rfl dX5_text_7 ((hF z hzn).trans hz) (by decide +kernel) (Or.inl (by show 100 ≤ _; omega)) ?_
    refine sw_icmp_ge (pc' := 11) (tgt := 55) rfl dX5_text_8 (by decide +kernel) (fun c8 => ?_) (fun c8 => ?_)
    · exact absurd c8 (nI_ge (by omega) (by omega))
    · refine sw_new (ci := 1) (pc' := 14) rfl dX5_text_11 (by decide +kernel) w_1354 w_682 w_54 (by omega) (Nat.le_trans (Nat.le_of_ble_eq_true rfl) (show 4 ≤ _ by omega)) ?_
      refine sw_nm (fun g1 eg1 => ?_)
      have zg1 := (congrFun eg1 pn).trans (up_s (h := p) (i := pn))
      refine sw_dup (pc' := 15) rfl dX5_text_14 rfl ?_
      have f1 : FN 1 = 4 := rfl
      refine sw_I (M' := MJ4_init_da8c8) (d' := d - 1) (bc' := 1) (bs' := 16) (as := []) dX5_text_15 w_1355 ok_J4_init_da8c8 (j_initSB (n0 := pn) zg1 (Nat.le_refl _) (Nat.lt_succ_self _) (by omega) (Nat.le_refl _) (Nat.le_refl _) (by omega)) (by omega) (Nat.le_of_ble_eq_true rfl) (by omega) (by omega) (fun E h' n' _ z => sbo_x z) (sbo_k (fun u un uk uS uF => ?_))
      have uG : ∀ i, i < pn → u i = p i := fun i hi => (uF i (Or.inl hi)).trans ((congrFun eg1 i).trans (up_n (by omega)))
      obtain ⟨a0, f0, fl0, hS0, -⟩ := id uS
      refine sw_aload_n (pc' := 19) rfl dX5_text_18 rfl ?_
      obtain ⟨vp1, vp2, vp3, vp4⟩ := pot (m := 16) (q := 0 + L) (K := 80) (by omega) (by omega)
      refine sw_V (M' := MJ4_append_15ec4) (d' := d - 1) (bc' := 1) (bs' := (grC 16 (0 + L))) (ci := 1) (as := [_]) dX5_text_19 w_1356 ok_J4_append_15ec4 (j_appendS uS (Nat.le_refl _) (by omega) (by omega) ((hS.fr (h' := u) (fun i _ hi => uG i hi) (Nat.le_refl _)).st.k) (by omega) (by omega) (Nat.le_refl _) (Nat.le_refl _)) hS0 rfl (by omega) (Nat.le_of_ble_eq_true rfl) (by omega) (by omega) (fun E h' n' _ z => sbo_x z) (sbo_k (fun v vn vk vS vF => ?_))
      obtain ⟨av, fv, flv, hSv, -⟩ := id vS
      have vG : ∀ i, i < pn → v i = p i := fun i hi => (vF i (Or.inl hi)).trans (uG i hi)
      refine sw_iload_n (pc' := 23) rfl dX5_text_22 rfl ?_
      refine sw_if_ne (pc' := 26) (tgt := 31) rfl dX5_text_23 (by decide +kernel) (fun c23 => ?_) (fun c23 => ?_)
      · refine sw_ldcS (pc' := 33) rfl dX5_text_31 (SRm 21 rfl) (by decide +kernel) ?_
        obtain ⟨wp1, wp2, wp3, wp4⟩ := pot (m := (capN 16 (0 + L))) (q := 0 + L + 1) (K := 80) (by omega) (by omega)
        refine sw_V (M' := MJ4_append_15ec4) (d' := d - 1) (bc' := 1) (bs' := (grC (capN 16 (0 + L)) (0 + L + 1))) (ci := 1) (as := [_]) dX5_text_33 w_1356 ok_J4_append_15ec4 (j_appendS vS (Nat.le_refl _) (by omega) (by omega) ((hT.fr (fun i hi => (vG i (by omega)).trans (hF i (by omega)))).2.2.2.1.c (by omega)) (by omega) (by omega) (Nat.le_refl _) (Nat.le_refl _)) hSv rfl (by omega) (Nat.le_of_ble_eq_true rfl) (by omega) (by omega) (fun E h' n' _ z => sbo_x z) (sbo_k (fun w wn wk wS wF => ?_))
        obtain ⟨aw, fw, flw, hSw, -⟩ := id wS
        have wG : ∀ i, i < pn → w i = p i := fun i hi => (wF i (Or.inl hi)).trans (vG i hi)
        refine sw_aload_n (pc' := 37) rfl dX5_text_36 rfl ?_
        refine sw_iload_n (pc' := 38) rfl dX5_text_37 rfl ?_
        refine sw_iald (j := i) (pc' := 39) rfl dX5_text_38 (((wG z (by omega)).trans (hF z hzn)).trans hz) rfl (by omega) (by omega) ?_
        rw [ex]
        refine sw_S (M' := MX5_sign) (d' := d - 1) (bc' := 6) (bs' := 26) (as := [_]) dX5_text_39 w_1358 ok_X5_sign (q_sign (k := x) (hT.fr (fun i hi => (wG i (by omega)).trans (hF i (by omega)))) hx (by omega) (by omega) (Nat.le_refl _) (Nat.le_refl _)) (by omega) (Nat.le_of_ble_eq_true rfl) (by omega) (by omega) (fun E h' n' _ z => txo_x z) (txo_k (fun y yn yt yL yk yl yS yF => ?_))
        obtain ⟨rp1, rp2, rp3, rp4⟩ := pot (m := (capN (capN 16 (0 + L)) (0 + L + 1))) (q := 0 + L + 1 + yL) (K := 80) (by omega) (by omega)
        refine sw_V (M' := MJ4_append_15ec4) (d' := d - 1) (bc' := 1) (bs' := (grC (capN (capN 16 (0 + L)) (0 + L + 1)) (0 + L + 1 + yL))) (ci := 1) (as := [_]) dX5_text_42 w_1356 ok_J4_append_15ec4 (j_appendS (wS.fr yF (Nat.le_refl _)) yk (by omega) (by omega) (yS.k (by omega)) (by omega) (by omega) (Nat.le_refl _) (Nat.le_refl _)) ((yF pn (by have := wS.lt; omega)).trans hSw) rfl (by omega) (Nat.le_of_ble_eq_true rfl) (by omega) (by omega) (fun E h' n' _ z => sbo_x z) (sbo_k (fun r rn rk rS rF => ?_))
        obtain ⟨ar, fr, flr, hSr, -⟩ := id rS
        have rG : ∀ i, i < pn → r i = p i := fun i hi => (rF i (Or.inl hi)).trans ((yF i (by omega)).trans (wG i hi))
        have rlt := rS.lt
        refine sw_V (M' := MJ4_toString_0e30d) (d' := d - 1) (bc' := 2) (bs' := (0 + L + 1 + yL + 4)) (ci := 1) (as := []) dX5_text_45 w_1363 ok_J4_toString_0e30d (j_toString rS (by omega) (by omega) (Nat.le_refl _) (Nat.le_refl _) (by omega)) hSr rfl (by omega) (Nat.le_of_ble_eq_true rfl) (by omega) (by omega) (fun E h' n' _ z => spo_x z) (spo_k (fun s sn t2 sk sS sF => ?_))
        refine sw_astore_n (pc' := 49) (lv' := [(1, _), (2, _), (0, _)]) rfl dX5_text_48 (by decide +kernel) rfl ?_
        refine sw_iinc (pc' := 52) (lv' := [(2, _), (1, _), (0, _)]) (v := nI (i + 1)) rfl dX5_text_49 rfl (nI_1 i) (by decide +kernel) rfl ?_
        refine sw_goto (tgt := 5) dX5_text_52 (by decide +kernel) ?_
        have eB : (if i = 0 then ([] : List Int32) else [32]) = [32] := if_neg (fun e => c23 (by rw [e]; rfl))
        exact ih (i + 1) _ _ sn t2 _ s (by omega) (by omega) (by rw [txL_s ex hx, eB]; exact sS.low (by omega)) (by omega) (fun j hj => (sF j (by omega)).trans ((rG j (by omega)).trans (hF j hj))) (by omega) (by omega)
      · refine sw_ldcS (pc' := 28) rfl dX5_text_26 (SRm 19 rfl) (by decide +kernel) ?_
        refine sw_goto (tgt := 33) dX5_text_28 (by decide +kernel) ?_
        obtain ⟨wp1, wp2, wp3, wp4⟩ := pot (m := (capN 16 (0 + L))) (q := 0 + L + 0) (K := 80) (by omega) (by omega)
        refine sw_V (M' := MJ4_append_15ec4) (d' := d - 1) (bc' := 1) (bs' := (grC (capN 16 (0 + L)) (0 + L + 0))) (ci := 1) (as := [_]) dX5_text_33 w_1356 ok_J4_append_15ec4 (j_appendS vS (Nat.le_refl _) (by omega) (by omega) ((hT.fr (fun i hi => (vG i (by omega)).trans (hF i (by omega)))).2.2.1.c (by omega)) (by omega) (by omega) (Nat.le_refl _) (Nat.le_refl _)) hSv rfl (by omega) (Nat.le_of_ble_eq_true rfl) (by omega) (by omega) (fun E h' n' _ z => sbo_x z) (sbo_k (fun w wn wk wS wF => ?_))
        obtain ⟨aw, fw, flw, hSw, -⟩ := id wS
        have wG : ∀ i, i < pn → w i = p i := fun i hi => (wF i (Or.inl hi)).trans (vG i hi)
        refine sw_aload_n (pc' := 37) rfl dX5_text_36 rfl ?_
        refine sw_iload_n (pc' := 38) rfl dX5_text_37 rfl ?_
        refine sw_iald (j := i) (pc' := 39) rfl dX5_text_38 (((wG z (by omega)).trans (hF z hzn)).trans hz) rfl (by omega) (by omega) ?_
        rw [ex]
        refine sw_S (M' := MX5_sign) (d' := d - 1) (bc' := 6) (bs' := 26) (as := [_]) dX5_text_39 w_1358 ok_X5_sign (q_sign (k := x) (hT.fr (fun i hi => (wG i (by omega)).trans (hF i (by omega)))) hx (by omega) (by omega) (Nat.le_refl _) (Nat.le_refl _)) (by omega) (Nat.le_of_ble_eq_true rfl) (by omega) (by omega) (fun E h' n' _ z => txo_x z) (txo_k (fun y yn yt yL yk yl yS yF => ?_))
        obtain ⟨rp1, rp2, rp3, rp4⟩ := pot (m := (capN (capN 16 (0 + L)) (0 + L + 0))) (q := 0 + L + 0 + yL) (K := 80) (by omega) (by omega)
        refine sw_V (M' := MJ4_append_15ec4) (d' := d - 1) (bc' := 1) (bs' := (grC (capN (capN 16 (0 + L)) (0 + L + 0)) (0 + L + 0 + yL))) (ci := 1) (as := [_]) dX5_text_42 w_1356 ok_J4_append_15ec4 (j_appendS (wS.fr yF (Nat.le_refl _)) yk (by omega) (by omega) (yS.k (by omega)) (by omega) (by omega) (Nat.le_refl _) (Nat.le_refl _)) ((yF pn (by have := wS.lt; omega)).trans hSw) rfl (by omega) (Nat.le_of_ble_eq_true rfl) (by omega) (by omega) (fun E h' n' _ z => sbo_x z) (sbo_k (fun r rn rk rS rF => ?_))
        obtain ⟨ar, fr, flr, hSr, -⟩ := id rS
        have rG : ∀ i, i < pn → r i = p i := fun i hi => (rF i (Or.inl hi)).trans ((yF i (by omega)).trans (wG i hi))
        have rlt := rS.lt
        refine sw_V (M' := MJ4_toString_0e30d) (d' := d - 1) (bc' := 2) (bs' := (0 + L + 0 + yL + 4)) (ci := 1) (as := []) dX5_text_45 w_1363 ok_J4_toString_0e30d (j_toString rS (by omega) (by omega) (Nat.le_refl _) (Nat.le_refl _) (by omega)) hSr rfl (by omega) (Nat.le_of_ble_eq_true rfl) (by omega) (by omega) (fun E h' n' _ z => spo_x z) (spo_k (fun s sn t2 sk sS sF => ?_))
        refine sw_astore_n (pc' := 49) (lv' := [(1, _), (2, _), (0, _)]) rfl dX5_text_48 (by decide +kernel) rfl ?_
        refine sw_iinc (pc' := 52) (lv' := [(2, _), (1, _), (0, _)]) (v := nI (i + 1)) rfl dX5_text_49 rfl (nI_1 i) (by decide +kernel) rfl ?_
        refine sw_goto (tgt := 5) dX5_text_52 (by decide +kernel) ?_
        have eB : (if i = 0 then ([] : List Int32) else [32]) = [] := if_pos ((nI_eq (b := 0) (by omega) (by decide +kernel)).mp c23)
        exact ih (i + 1) _ _ sn t2 _ s (by omega) (by omega) (by rw [txL_s ex hx, eB]; exact sS.low (by omega)) (by omega) (fun j hj => (sF j (by omega)).trans ((rG j (by omega)).trans (hF j hj))) (by omega) (by omega)
theorem q_textA {h : AH} {d bc bs n z len : Nat} {g : Nat → Int32} (hT : TXT h) (hz : h z = .inl (0, len, .inl g)) (hz0 : 100 ≤ z) (hzn : z < n) (hlen : len ≤ 12) (hg : ∀ j, j < len → ∃ x, x ≤ 100 ∧ g j = nI x) (hn : 100 ≤ n) (hd : 9 ≤ d) (h1 : 156 ≤ bc) (h2 : 2640 ≤ bs) : SM SR0 MX5_text d bc bs [.ref z] h n (TXo h n 36 (txL g len)) := by
  refine sm_of pn_OverwalksModel rfl (Nat.le_of_ble_eq_true rfl) ?_
  refine sw_ldcS (pc' := 2) rfl dX5_text_0 (SRm 19 rfl) (by decide +kernel) ?_
  refine sw_astore_n (pc' := 3) (lv' := [(1, _), (0, _)]) rfl dX5_text_2 (by decide +kernel) rfl ?_
  refine sw_iconst (pc' := 4) (v := 0) rfl dX5_text_3 (by decide +kernel) ?_
  refine sw_istore_n (pc' := 5) (lv' := [(2, _), (1, _), (0, _)]) rfl dX5_text_4 (by decide +kernel) rfl ?_
  refine SW.pick [0, 1, 2] rfl (ql_text hT hz hz0 hzn hlen hg hn hd len 0 bc bs n 48 0 h (by omega) (Nat.le_refl _) (hT.2.2.1.n (by omega)) (by omega) (fun _ _ => rfl) (by omega) (by omega))
theorem q_text {h : AH} {d bc bs n : Nat} {σ : CS} {th : Int32} {a : Int32} (hR : RMo h σ th) (hI : Iv σ) (hn : 159 ≤ n) (hd : 12 ≤ d) (h1 : 200 ≤ bc) (h2 : 2800 ≤ bs) (hT : TXT h) : SM SR0 MX5_text_ d bc bs [.ref 135, .int a] h n (PT h n (tc sI sI) (opText σ a) (tcT σ a)) := by
  obtain ⟨ρ, τ, hM, hA⟩ := hR
  obtain ⟨G0, hG0, eG0⟩ := hM.out
  refine sm_of pn_OverwalksModel rfl (Nat.le_of_ble_eq_true rfl) ?_
  rcases idxN 11 (by decide +kernel) a with qk1 | ⟨k, hk, rfl⟩
  · refine sw_aload_n (pc' := 1) rfl dX5_text__0 rfl ?_
    refine sw_iload_n (pc' := 2) rfl dX5_text__1 rfl ?_
    refine sw_S (M' := MX5_isNone) (d' := d - 1) (bc' := 0) (bs' := 0) (as := [_]) dX5_text__2 w_1165 ok_X5_isNone (q_isNone (by omega)) (by omega) (Nat.le_of_ble_eq_true rfl) (Nat.zero_le _) (Nat.zero_le _) (fun E h' n' _ z => det_x z) (det_k ?_)
    rw [show inB a 0 10 = false from no_x (N := 10) (by decide +kernel) qk1]
    show SW _ _ _ _ _ _ _ (.int 1 :: _) _ _ _
    refine sw_V (M' := MX5_isStopped__) (d' := d - 1) (bc' := 0) (bs' := 0) (ci := 6) (as := [_]) dX5_text__5 w_1235 ok_X5_isStopped__ (q_isStopped1 (a := true) hM hA (by omega)) hM.ob rfl (by omega) (Nat.le_of_ble_eq_true rfl) (Nat.zero_le _) (Nat.zero_le _) (fun E h' n' _ z => rp_x z) (rp_k (fun p5 p5ρ p5τ p5M p5A p5F => ?_))
    obtain ⟨Gp5, hGp5, eGp5⟩ := p5M.out
    show SW _ _ _ _ _ _ _ (.int 1 :: _) _ _ _
    refine sw_if_eq (pc' := 11) (tgt := 16) rfl dX5_text__8 (by decide +kernel) (fun c8 => ?_) (fun c8 => ?_)
    · exact absurd c8 (by decide +kernel)
    · refine sw_ldcS (pc' := 13) rfl dX5_text__11 (SRm 19 rfl) (by decide +kernel) ?_
      refine sw_goto (tgt := 25) dX5_text__13 (by decide +kernel) ?_
      refine sw_ret (v := some _) ⟨dX5_text__25, _, rfl, Or.inl ⟨_, rfl⟩⟩ ?_
      rw [opText, onSh_x qk1]
      exact pt_x tc_1 p5M p5A p5F (Nat.le_refl _)
  have hck := hI.1 k hk
  refine sw_aload_n (pc' := 1) rfl dX5_text__0 rfl ?_
  refine sw_iload_n (pc' := 2) rfl dX5_text__1 rfl ?_
  refine sw_S (M' := MX5_isNone) (d' := d - 1) (bc' := 0) (bs' := 0) (as := [_]) dX5_text__2 w_1165 ok_X5_isNone (q_isNone (by omega)) (by omega) (Nat.le_of_ble_eq_true rfl) (Nat.zero_le _) (Nat.zero_le _) (fun E h' n' _ z => det_x z) (det_k ?_)
  rw [show inB (nI k) 0 10 = true from inB_k (N := 10) (by omega) (by decide +kernel)]
  show SW _ _ _ _ _ _ _ (.int 0 :: _) _ _ _
  refine sw_V (M' := MX5_isStopped__) (d' := d - 1) (bc' := 0) (bs' := 0) (ci := 6) (as := [_]) dX5_text__5 w_1235 ok_X5_isStopped__ (q_isStopped1 (a := false) hM hA (by omega)) hM.ob rfl (by omega) (Nat.le_of_ble_eq_true rfl) (Nat.zero_le _) (Nat.zero_le _) (fun E h' n' _ z => rp_x z) (rp_k (fun p5 p5ρ p5τ p5M p5A p5F => ?_))
  obtain ⟨Gp5, hGp5, eGp5⟩ := p5M.out
  show SW _ _ _ _ _ _ _ (.int 0 :: _) _ _ _
  refine sw_if_eq (pc' := 11) (tgt := 16) rfl dX5_text__8 (by decide +kernel) (fun c8 => ?_) (fun c8 => ?_)
  · refine sw_aload_n (pc' := 17) rfl dX5_text__16 rfl ?_
    refine sw_iload_n (pc' := 18) rfl dX5_text__17 rfl ?_
    refine sw_iconst (pc' := 19) (v := 0) rfl dX5_text__18 (by decide +kernel) ?_
    refine sw_V (M' := MX5_picture) (d' := d - 1) (bc' := 1) (bs' := 12) (ci := 6) (as := [_, _]) dX5_text__19 w_1255 ok_X5_picture (q_picture p5M p5A (k := k) (by omega) (hI.1 k (by omega)) (by omega) (by omega) (by omega)) p5M.ob rfl (by omega) (Nat.le_of_ble_eq_true rfl) (by omega) (by omega) (fun E h' n' _ z => na_x z) (na_k (fun p19 p19f p19N p19g p19F => ?_))
    have p19M := p5M.fr (fun i h1 h2 => p19F i (by omega))
    obtain ⟨Gp19, hGp19, eGp19⟩ := p19M.out
    refine sw_S (M' := MX5_text) (d' := d - 1) (bc' := 156) (bs' := 2640) (as := [_]) dX5_text__22 w_1351 ok_X5_text (q_textA (hT.fr (fun i hi => (p5F.tr (fun i q g => p19F i (by omega)) (Nat.le_refl _)) i (by omega) (by omega))) p19N (by omega) (Nat.lt_succ_self _) (by omega) (fun j hj => by rw [p19g j hj]; exact (show thI σ from hI.2.2.1).at hk hj) (by omega) (by omega) (Nat.le_refl _) (Nat.le_refl _)) (by omega) (Nat.le_of_ble_eq_true rfl) (by omega) (by omega) (fun E h' n' _ z => txo_x z) (txo_k (fun w wn wt wL wk wl wS wF => ?_))
    refine sw_ret (v := some _) ⟨dX5_text__25, _, rfl, Or.inl ⟨_, rfl⟩⟩ ?_
    rw [opText, onSh_k hk]
    exact pt_k (L := wL) (p19M.fr (fun i h1 h2 => wF i (by omega))) p5A ((p5F.tr (fun i q g => p19F i (by omega)) (Nat.le_refl _)).tr (fun i _ hi => wF i (by omega)) (Nat.le_refl _)) (by omega) (by omega) (by rw [tcT_k hk, show tB σ k 0 = txL p19f (σ.2.1 k) from txL_e (g := fun j => σ.1 k (0 + j)) (g' := p19f) (σ.2.1 k) (fun j hj => by show σ.1 k (0 + j) = _; rw [Nat.zero_add, p19g j hj])]; exact wS.low (m := n) (by omega))
  · exact absurd c8 (by decide +kernel)
theorem q_list {h : AH} {d bc bs n : Nat} {σ : CS} {th : Int32} {a : Int32} (hR : RMo h σ th) (hI : Iv σ) (hn : 159 ≤ n) (hd : 13 ≤ d) (h1 : 200 ≤ bc) (h2 : 2800 ≤ bs) (hT : TXT h) : SM SR0 MX5_list d bc bs [.ref 135, .int a] h n (PT h n (tc sI sI) (opText σ a) (tcT σ a)) := by
  obtain ⟨ρ, τ, hM, hA⟩ := id hR
  refine sm_of pn_OverwalksModel rfl (Nat.le_of_ble_eq_true rfl) ?_
  refine sw_aload_n (pc' := 1) rfl dX5_list_0 rfl ?_
  refine sw_iload_n (pc' := 2) rfl dX5_list_1 rfl ?_
  refine sw_V (M' := MX5_text_) (d' := d - 1) (bc' := 200) (bs' := 2800) (ci := 6) (as := [_]) dX5_list_2 w_1408 ok_X5_text_ (q_text hR hI hn (by omega) (Nat.le_refl _) (Nat.le_refl _) hT) hM.ob rfl (by omega) (Nat.le_of_ble_eq_true rfl) (by omega) (by omega) (fun E h' n' _ z => ptc_x z) (ptc_k (fun p pn x pP => ?_))
  refine sw_ret (v := some _) ⟨dX5_list_5, _, rfl, Or.inl ⟨_, rfl⟩⟩ ?_
  exact pP
theorem q_rest {h : AH} {d bc bs n : Nat} {σ : CS} {th : Int32} {a : Int32} (hR : RMo h σ th) (hI : Iv σ) (hn : 159 ≤ n) (hd : 12 ≤ d) (h1 : 200 ≤ bc) (h2 : 2800 ≤ bs) (hT : TXT h) : SM SR0 MX5_rest d bc bs [.ref 135, .int a] h n (PT h n (tc sI sS) (opRest σ a) (tcR σ a)) := by
  obtain ⟨ρ, τ, hM, hA⟩ := hR
  obtain ⟨G0, hG0, eG0⟩ := hM.out
  refine sm_of pn_OverwalksModel rfl (Nat.le_of_ble_eq_true rfl) ?_
  rcases idxN 6 (by decide +kernel) a with qk1 | ⟨k, hk, rfl⟩
  · refine sw_aload_n (pc' := 1) rfl dX5_rest_0 rfl ?_
    refine sw_iload_n (pc' := 2) rfl dX5_rest_1 rfl ?_
    refine sw_S (M' := MX5_isNoWalk) (d' := d - 1) (bc' := 0) (bs' := 0) (as := [_]) dX5_rest_2 w_1306 ok_X5_isNoWalk (q_isNoWalk (by omega)) (by omega) (Nat.le_of_ble_eq_true rfl) (Nat.zero_le _) (Nat.zero_le _) (fun E h' n' _ z => det_x z) (det_k ?_)
    rw [show inB a 0 5 = false from no_x (N := 5) (by decide +kernel) qk1]
    show SW _ _ _ _ _ _ _ (.int 1 :: _) _ _ _
    refine sw_aload_n (pc' := 6) rfl dX5_rest_5 rfl ?_
    refine sw_iload_n (pc' := 7) rfl dX5_rest_6 rfl ?_
    refine sw_V (M' := MX5_isUnmade) (d' := d - 1) (bc' := 0) (bs' := 0) (ci := 6) (as := [_]) dX5_rest_7 w_1313 ok_X5_isUnmade (q_isUnmade_x hM (no_x (N := 5) (by decide +kernel) qk1) (by omega)) hM.ob rfl (by omega) (Nat.le_of_ble_eq_true rfl) (Nat.zero_le _) (Nat.zero_le _) (fun E h' n' _ z => det_x z) (det_k ?_)
    refine sw_V (M' := MX5_isStopped_) (d' := d - 1) (bc' := 0) (bs' := 0) (ci := 6) (as := [_, _]) dX5_rest_10 w_1215 ok_X5_isStopped_ (q_isStopped2 (a := true) (b := false) hM hA (by omega)) hM.ob rfl (by omega) (Nat.le_of_ble_eq_true rfl) (Nat.zero_le _) (Nat.zero_le _) (fun E h' n' _ z => rp_x z) (rp_k (fun p10 p10ρ p10τ p10M p10A p10F => ?_))
    obtain ⟨Gp10, hGp10, eGp10⟩ := p10M.out
    show SW _ _ _ _ _ _ _ (.int 1 :: _) _ _ _
    refine sw_if_eq (pc' := 16) (tgt := 19) rfl dX5_rest_13 (by decide +kernel) (fun c13 => ?_) (fun c13 => ?_)
    · exact absurd c13 (by decide +kernel)
    · refine sw_ldcS (pc' := 18) rfl dX5_rest_16 (SRm 19 rfl) (by decide +kernel) ?_
      refine sw_ret (v := some _) ⟨dX5_rest_18, _, rfl, Or.inl ⟨_, rfl⟩⟩ ?_
      rw [opRest, onWk_x qk1]
      exact pt_x tc_1 p10M p10A p10F (Nat.le_refl _)
  have ovk := hI.2.2.2.2.2.2.1 k hk
  have hcwk := hI.1 _ ovk
  rcases Classical.em ((σ.2.2.2.2.1 k).1 = false) with qm | qm
  · refine sw_aload_n (pc' := 1) rfl dX5_rest_0 rfl ?_
    refine sw_iload_n (pc' := 2) rfl dX5_rest_1 rfl ?_
    refine sw_S (M' := MX5_isNoWalk) (d' := d - 1) (bc' := 0) (bs' := 0) (as := [_]) dX5_rest_2 w_1306 ok_X5_isNoWalk (q_isNoWalk (by omega)) (by omega) (Nat.le_of_ble_eq_true rfl) (Nat.zero_le _) (Nat.zero_le _) (fun E h' n' _ z => det_x z) (det_k ?_)
    rw [show inB (nI k) 0 5 = true from inB_k (N := 5) (by omega) (by decide +kernel)]
    show SW _ _ _ _ _ _ _ (.int 0 :: _) _ _ _
    refine sw_aload_n (pc' := 6) rfl dX5_rest_5 rfl ?_
    refine sw_iload_n (pc' := 7) rfl dX5_rest_6 rfl ?_
    refine sw_V (M' := MX5_isUnmade) (d' := d - 1) (bc' := 0) (bs' := 0) (ci := 6) (as := [_]) dX5_rest_7 w_1313 ok_X5_isUnmade (q_isUnmade_k hM (k := k) (by omega) (hI.2.2.2.2.2.2.1 k (by omega)) (by omega)) hM.ob rfl (by omega) (Nat.le_of_ble_eq_true rfl) (Nat.zero_le _) (Nat.zero_le _) (fun E h' n' _ z => det_x z) (det_k ?_)
    rw [show (σ.2.2.2.2.1 k).1 = false from qm]
    show SW _ _ _ _ _ _ _ (.int 1 :: _) _ _ _
    refine sw_V (M' := MX5_isStopped_) (d' := d - 1) (bc' := 0) (bs' := 0) (ci := 6) (as := [_, _]) dX5_rest_10 w_1215 ok_X5_isStopped_ (q_isStopped2 (a := false) (b := true) hM hA (by omega)) hM.ob rfl (by omega) (Nat.le_of_ble_eq_true rfl) (Nat.zero_le _) (Nat.zero_le _) (fun E h' n' _ z => rp_x z) (rp_k (fun p10 p10ρ p10τ p10M p10A p10F => ?_))
    obtain ⟨Gp10, hGp10, eGp10⟩ := p10M.out
    show SW _ _ _ _ _ _ _ (.int 1 :: _) _ _ _
    refine sw_if_eq (pc' := 16) (tgt := 19) rfl dX5_rest_13 (by decide +kernel) (fun c13 => ?_) (fun c13 => ?_)
    · exact absurd c13 (by decide +kernel)
    · refine sw_ldcS (pc' := 18) rfl dX5_rest_16 (SRm 19 rfl) (by decide +kernel) ?_
      refine sw_ret (v := some _) ⟨dX5_rest_18, _, rfl, Or.inl ⟨_, rfl⟩⟩ ?_
      rw [opRest, onWk_k hk, if_pos qm]
      exact pt_x (tc_2 sSI) p10M p10A p10F (Nat.le_refl _)
  refine sw_aload_n (pc' := 1) rfl dX5_rest_0 rfl ?_
  refine sw_iload_n (pc' := 2) rfl dX5_rest_1 rfl ?_
  refine sw_S (M' := MX5_isNoWalk) (d' := d - 1) (bc' := 0) (bs' := 0) (as := [_]) dX5_rest_2 w_1306 ok_X5_isNoWalk (q_isNoWalk (by omega)) (by omega) (Nat.le_of_ble_eq_true rfl) (Nat.zero_le _) (Nat.zero_le _) (fun E h' n' _ z => det_x z) (det_k ?_)
  rw [show inB (nI k) 0 5 = true from inB_k (N := 5) (by omega) (by decide +kernel)]
  show SW _ _ _ _ _ _ _ (.int 0 :: _) _ _ _
  refine sw_aload_n (pc' := 6) rfl dX5_rest_5 rfl ?_
  refine sw_iload_n (pc' := 7) rfl dX5_rest_6 rfl ?_
  refine sw_V (M' := MX5_isUnmade) (d' := d - 1) (bc' := 0) (bs' := 0) (ci := 6) (as := [_]) dX5_rest_7 w_1313 ok_X5_isUnmade (q_isUnmade_k hM (k := k) (by omega) (hI.2.2.2.2.2.2.1 k (by omega)) (by omega)) hM.ob rfl (by omega) (Nat.le_of_ble_eq_true rfl) (Nat.zero_le _) (Nat.zero_le _) (fun E h' n' _ z => det_x z) (det_k ?_)
  rw [show (σ.2.2.2.2.1 k).1 = true from (mkT qm)]
  show SW _ _ _ _ _ _ _ (.int 0 :: _) _ _ _
  refine sw_V (M' := MX5_isStopped_) (d' := d - 1) (bc' := 0) (bs' := 0) (ci := 6) (as := [_, _]) dX5_rest_10 w_1215 ok_X5_isStopped_ (q_isStopped2 (a := false) (b := false) hM hA (by omega)) hM.ob rfl (by omega) (Nat.le_of_ble_eq_true rfl) (Nat.zero_le _) (Nat.zero_le _) (fun E h' n' _ z => rp_x z) (rp_k (fun p10 p10ρ p10τ p10M p10A p10F => ?_))
  obtain ⟨Gp10, hGp10, eGp10⟩ := p10M.out
  show SW _ _ _ _ _ _ _ (.int 0 :: _) _ _ _
  refine sw_if_eq (pc' := 16) (tgt := 19) rfl dX5_rest_13 (by decide +kernel) (fun c13 => ?_) (fun c13 => ?_)
  · refine sw_aload_n (pc' := 20) rfl dX5_rest_19 rfl ?_
    refine sw_iload_n (pc' := 21) rfl dX5_rest_20 rfl ?_
    refine sw_V (M' := MX5_isStale) (d' := d - 1) (bc' := 0) (bs' := 0) (ci := 6) (as := [_]) dX5_rest_21 w_1317 ok_X5_isStale (q_isStale p10M (k := k) (by omega) (mkT qm) (hI.2.2.2.2.2.2.1 k (by omega))) p10M.ob rfl (by omega) (Nat.le_of_ble_eq_true rfl) (Nat.zero_le _) (Nat.zero_le _) (fun E h' n' _ z => det_x z) (det_k ?_)
    refine sw_if_ne (pc' := 27) (tgt := 37) rfl dX5_rest_24 (by decide +kernel) (fun c24 => ?_) (fun c24 => ?_)
    · refine sw_aload_n (pc' := 38) rfl dX5_rest_37 rfl ?_
      refine sw_V (M' := MX5_noText) (d' := d - 1) (bc' := 0) (bs' := 0) (ci := 6) (as := []) dX5_rest_38 w_1342 ok_X5_noText (q_noText p10M p10A) p10M.ob rfl (by omega) (Nat.le_of_ble_eq_true rfl) (Nat.zero_le _) (Nat.zero_le _) (fun E h' n' _ z => rp_x z) (rp_k (fun p38 p38ρ p38τ p38M p38A p38F => ?_))
      obtain ⟨Gp38, hGp38, eGp38⟩ := p38M.out
      refine sw_goto (tgt := 52) dX5_rest_41 (by decide +kernel) ?_
      refine sw_ret (v := some _) ⟨dX5_rest_52, _, rfl, Or.inl ⟨_, rfl⟩⟩ ?_
      rw [opRest, onWk_k hk, if_neg qm, if_pos (wGa_s (bI_1 c24)), tcR_f hk (wGa_s (bI_1 c24))]
      exact pt_k p38M p38A (p10F.tr p38F (Nat.le_refl _)) (Nat.le_refl _) (by omega) ((hT.fr (fun i hi => (p10F.tr p38F (Nat.le_refl _)) i (by omega) (by omega))).2.2.2.2.2.2.n (by omega))
    · refine sw_aload_n (pc' := 28) rfl dX5_rest_27 rfl ?_
      refine sw_getf (ci := 6) (k := 7) (pc' := 31) rfl dX5_rest_28 (by decide +kernel) w_1120 p10M.ob rfl ?_
      refine sw_iload_n (pc' := 32) rfl dX5_rest_31 rfl ?_
      refine sw_iald (j := k) (pc' := 33) rfl dX5_rest_32 p10M.hw rfl (by omega) (by decide +kernel) ?_
      refine sw_iconst (pc' := 34) (v := 1) rfl dX5_rest_33 (by decide +kernel) ?_
      refine sw_icmp_ne (pc' := 37) (tgt := 44) rfl dX5_rest_34 (by decide +kernel) (fun c34 => ?_) (fun c34 => ?_)
      · obtain ⟨A, eA, hA1, hA2⟩ := hI.2.2.2.2.2.2.2 k hk (mkT qm) (bI_0 c24)
        refine sw_aload_n (pc' := 45) rfl dX5_rest_44 rfl ?_
        refine sw_iload_n (pc' := 46) rfl dX5_rest_45 rfl ?_
        refine sw_V (M' := MX5_left) (d' := d - 1) (bc' := 1) (bs' := 12) (ci := 6) (as := [_]) dX5_rest_46 w_1347 ok_X5_left (q_left p10M p10A (k := k) (by omega) (mkT qm) (hI.2.2.2.2.2.2.1 k (by omega)) (hI.1 _ (hI.2.2.2.2.2.2.1 k (by omega))) eA hA1 (by omega) (by omega) (by omega) (by omega)) p10M.ob rfl (by omega) (Nat.le_of_ble_eq_true rfl) (by omega) (by omega) (fun E h' n' _ z => nl_x z) (nl_k (fun p46 p46ρ p46τ p46f p46M p46A p46N p46g p46F => ?_))
        obtain ⟨Gp46, hGp46, eGp46⟩ := p46M.out
        refine sw_S (M' := MX5_text) (d' := d - 1) (bc' := 156) (bs' := 2640) (as := [_]) dX5_rest_49 w_1351 ok_X5_text (q_textA (hT.fr (fun i hi => (p10F.tr p46F (Nat.le_refl _)) i (by omega) (by omega))) p46N (by omega) (Nat.lt_succ_self _) (by omega) (fun j hj => by rw [p46g j hj]; exact (show thI σ from hI.2.2.1).at ovk (by omega)) (by omega) (by omega) (Nat.le_refl _) (Nat.le_refl _)) (by omega) (Nat.le_of_ble_eq_true rfl) (by omega) (by omega) (fun E h' n' _ z => txo_x z) (txo_k (fun w wn wt wL wk wl wS wF => ?_))
        refine sw_ret (v := some _) ⟨dX5_rest_52, _, rfl, Or.inl ⟨_, rfl⟩⟩ ?_
        rw [opRest, onWk_k hk, if_neg qm, if_neg (fun e => Bool.noConfusion (e.symm.trans (wGa_t (bI_0 c24) c34))), wGu_eq (bI_0 c24) hcwk eA hA1 (by omega)]
        exact pt_k (L := wL) (p46M.fr (fun i h1 h2 => wF i (by omega))) p46A ((p10F.tr p46F (Nat.le_refl _)).tr (fun i _ hi => wF i (by omega)) (Nat.le_refl _)) (by omega) (by omega) (by rw [tcR_t hk (wGa_t (bI_0 c24) c34) eA (by omega), show tB σ (wO σ k) A = txL p46f (σ.2.1 (wO σ k) - A) from txL_e (g := fun j => σ.1 (wO σ k) (A + j)) (g' := p46f) (σ.2.1 (wO σ k) - A) (fun j hj => (p46g j hj).symm)]; exact wS.low (m := n) (by omega))
      · refine sw_aload_n (pc' := 38) rfl dX5_rest_37 rfl ?_
        refine sw_V (M' := MX5_noText) (d' := d - 1) (bc' := 0) (bs' := 0) (ci := 6) (as := []) dX5_rest_38 w_1342 ok_X5_noText (q_noText p10M p10A) p10M.ob rfl (by omega) (Nat.le_of_ble_eq_true rfl) (Nat.zero_le _) (Nat.zero_le _) (fun E h' n' _ z => rp_x z) (rp_k (fun p38 p38ρ p38τ p38M p38A p38F => ?_))
        obtain ⟨Gp38, hGp38, eGp38⟩ := p38M.out
        refine sw_goto (tgt := 52) dX5_rest_41 (by decide +kernel) ?_
        refine sw_ret (v := some _) ⟨dX5_rest_52, _, rfl, Or.inl ⟨_, rfl⟩⟩ ?_
        rw [opRest, onWk_k hk, if_neg qm, if_pos (wGa_1 c34), tcR_f hk (wGa_1 c34)]
        exact pt_k p38M p38A (p10F.tr p38F (Nat.le_refl _)) (Nat.le_refl _) (by omega) ((hT.fr (fun i hi => (p10F.tr p38F (Nat.le_refl _)) i (by omega) (by omega))).2.2.2.2.2.2.n (by omega))
  · exact absurd c13 (by decide +kernel)
theorem ql_zip {h0 : AH} {d n k j N : Nat} (hT : TXT h0) (hN : N < 2 ^ 31) (hk : k < 6) (hj : j < 6) (hne : k ≠ j) (hn : 159 ≤ n) (hd : 9 ≤ d) (m : Nat) : ∀ (i bc bs pn t L : Nat) (p : AH) (σ : CS) (c : List Int32), i + m = 12 → RMo p σ 0 → IV σ N → (σ.2.2.2.2.1 k).1 = true → (σ.2.2.2.2.1 j).1 = true → wSt σ k = false → wSt σ j = false → (∀ A : Nat, wAh σ k = nI A → σ.2.1 (wO σ k) ≤ A + m) → n ≤ pn → StN p pn n t L c → L ≤ 6 * i → FrM h0 p n → 21 * m ≤ bc → zc m ≤ bs → SW SR0 MX5_zip d bc bs 84 [(3, .ref t), (0, .ref 135), (1, .int (nI k)), (2, .int (nI j))] [] p pn (PT h0 n (tc sI sA) (ivN, zpU σ k j m) (zpL k j m σ c)) := by
  induction m with
  | zero =>
    intro i bc bs pn t L p σ c hi hR hV hmk hmj hs hs2 hfu hnp hS hL hG h1 h2
    have hcl := hS.len
    obtain ⟨ρ, τ, hM, hA⟩ := id hR
    have hI := hV.iv hN
    have ovk := hI.2.2.2.2.2.2.1 k hk
    have ovj := hI.2.2.2.2.2.2.1 j hj
    have hck := hI.1 _ ovk
    have hcj := hI.1 _ ovj
    obtain ⟨A, eA, hA1, -⟩ := hI.2.2.2.2.2.2.2 k hk hmk hs
    obtain ⟨A2, eA2, hA2, -⟩ := hI.2.2.2.2.2.2.2 j hj hmj hs2
    have hf := hfu A eA
    refine sw_aload_n (pc' := 85) rfl dX5_zip_84 rfl ?_
    refine sw_iload_n (pc' := 86) rfl dX5_zip_85 rfl ?_
    refine sw_V (M' := MX5_hasMore) (d' := d - 1) (bc' := 0) (bs' := 0) (ci := 6) (as := [_]) dX5_zip_86 w_1321 ok_X5_hasMore (q_hasMore hM hk hmk ovk) hM.ob rfl (by omega) (Nat.le_of_ble_eq_true rfl) (Nat.zero_le _) (Nat.zero_le _) (fun E h' n' _ z => det_x z) (det_k ?_)
    refine sw_if_eq (pc' := 92) (tgt := 162) rfl dX5_zip_89 (by decide +kernel) (fun c89 => ?_) (fun c89 => ?_)
    · refine sw_aload_n (pc' := 163) rfl dX5_zip_162 rfl ?_
      refine sw_ret (v := some _) ⟨dX5_zip_163, _, rfl, Or.inl ⟨_, rfl⟩⟩ ?_
      rw [show zpL k j 0 σ c = c from rfl]
      exact ⟨hnp, ⟨t, rfl, fun _ => ⟨L, by omega, hS⟩⟩, hR, hG⟩
    · exact absurd (of_decide_eq_true (bI_1 c89)) (by rw [eA]; exact nI_nlt (by omega) (by omega))
  | succ m ih =>
    intro i bc bs pn t L p σ c hi hR hV hmk hmj hs hs2 hfu hnp hS hL hG h1 h2
    have hcl := hS.len
    obtain ⟨ρ, τ, hM, hA⟩ := id hR
    have hI := hV.iv hN
    have ovk := hI.2.2.2.2.2.2.1 k hk
    have ovj := hI.2.2.2.2.2.2.1 j hj
    have hck := hI.1 _ ovk
    have hcj := hI.1 _ ovj
    obtain ⟨A, eA, hA1, -⟩ := hI.2.2.2.2.2.2.2 k hk hmk hs
    obtain ⟨A2, eA2, hA2, -⟩ := hI.2.2.2.2.2.2.2 j hj hmj hs2
    have hf := hfu A eA
    have zs := zc_s hi
    refine sw_aload_n (pc' := 85) rfl dX5_zip_84 rfl ?_
    refine sw_iload_n (pc' := 86) rfl dX5_zip_85 rfl ?_
    refine sw_V (M' := MX5_hasMore) (d' := d - 1) (bc' := 0) (bs' := 0) (ci := 6) (as := [_]) dX5_zip_86 w_1321 ok_X5_hasMore (q_hasMore hM hk hmk ovk) hM.ob rfl (by omega) (Nat.le_of_ble_eq_true rfl) (Nat.zero_le _) (Nat.zero_le _) (fun E h' n' _ z => det_x z) (det_k ?_)
    refine sw_if_eq (pc' := 92) (tgt := 162) rfl dX5_zip_89 (by decide +kernel) (fun c89 => ?_) (fun c89 => ?_)
    · refine sw_aload_n (pc' := 163) rfl dX5_zip_162 rfl ?_
      refine sw_ret (v := some _) ⟨dX5_zip_163, _, rfl, Or.inl ⟨_, rfl⟩⟩ ?_
      have e9 : zpU σ k j (m + 1) = σ := if_neg (fun g => Bool.noConfusion ((wHM_f hs (bI_0 c89)).symm.trans g.1))
      have e8 : zpL k j (m + 1) σ c = c := zpL_f (fun g => Bool.noConfusion ((wHM_f hs (bI_0 c89)).symm.trans g.1))
      rw [e9, e8]
      exact ⟨hnp, ⟨t, rfl, fun _ => ⟨L, by omega, hS⟩⟩, hR, hG⟩
    · refine sw_aload_n (pc' := 93) rfl dX5_zip_92 rfl ?_
      refine sw_iload_n (pc' := 94) rfl dX5_zip_93 rfl ?_
      refine sw_V (M' := MX5_hasMore) (d' := d - 1) (bc' := 0) (bs' := 0) (ci := 6) (as := [_]) dX5_zip_94 w_1321 ok_X5_hasMore (q_hasMore hM hj hmj ovj) hM.ob rfl (by omega) (Nat.le_of_ble_eq_true rfl) (Nat.zero_le _) (Nat.zero_le _) (fun E h' n' _ z => det_x z) (det_k ?_)
      refine sw_if_eq (pc' := 100) (tgt := 162) rfl dX5_zip_97 (by decide +kernel) (fun c97 => ?_) (fun c97 => ?_)
      · refine sw_aload_n (pc' := 163) rfl dX5_zip_162 rfl ?_
        refine sw_ret (v := some _) ⟨dX5_zip_163, _, rfl, Or.inl ⟨_, rfl⟩⟩ ?_
        have e9 : zpU σ k j (m + 1) = σ := if_neg (fun g => Bool.noConfusion ((wHM_f hs2 (bI_0 c97)).symm.trans g.2))
        have e8 : zpL k j (m + 1) σ c = c := zpL_f (fun g => Bool.noConfusion ((wHM_f hs2 (bI_0 c97)).symm.trans g.2))
        rw [e9, e8]
        exact ⟨hnp, ⟨t, rfl, fun _ => ⟨L, by omega, hS⟩⟩, hR, hG⟩
      · refine sw_new (ci := 1) (pc' := 103) rfl dX5_zip_100 (by decide +kernel) w_1354 w_682 w_54 (by omega) (Nat.le_trans (Nat.le_of_ble_eq_true rfl) (show 4 ≤ _ by omega)) ?_
        refine sw_nm (fun g1 eg1 => ?_)
        have zg1 := (congrFun eg1 pn).trans (up_s (h := p) (i := pn))
        refine sw_dup (pc' := 104) rfl dX5_zip_103 rfl ?_
        have f1 : FN 1 = 4 := rfl
        have g1 : wHM σ k = true := by rw [wHM_m hs]; exact bI_1 c89
        have g2 : wHM σ j = true := by rw [wHM_m hs2]; exact bI_1 c97
        have hA3 : A < σ.2.1 (wO σ k) := (nI_ltI (by omega) (by omega)).mp (eA ▸ of_decide_eq_true (bI_1 c89))
        have hA4 : A2 < σ.2.1 (wO σ j) := (nI_ltI (by omega) (by omega)).mp (eA2 ▸ of_decide_eq_true (bI_1 c97))
        obtain ⟨x, hx, ex⟩ := (show thI σ from hI.2.2.1).at ovk hA3
        obtain ⟨y, hy, ey⟩ := (show thI σ from hI.2.2.1).at ovj hA4
        have hnj := Ne.symm hne
        have V1 : IV (gvU σ k 1) N := iv_g1 hV hk g1
        have g3 : wHM (gvU σ k 1) j = true := (gv_hm hnj).trans g2
        have V2 : IV (gvU (gvU σ k 1) j 1) N := iv_g1 V1 hj g3
        have hm1 : ((gvU σ k 1).2.2.2.2.1 j).1 = true := by rw [gv_wk hnj]; exact hmj
        refine sw_I (M' := MJ4_init_da8c8) (d' := d - 1) (bc' := 1) (bs' := 16) (as := []) dX5_zip_104 w_1355 ok_J4_init_da8c8 (j_initSB (n0 := pn) zg1 (Nat.le_refl _) (Nat.lt_succ_self _) (by omega) (Nat.le_refl _) (Nat.le_refl _) (by omega)) (by omega) (Nat.le_of_ble_eq_true rfl) (by omega) (by omega) (fun E h' n' _ z => sbo_x z) (sbo_k (fun u un uk uS uF => ?_))
        have uG : ∀ i, i < pn → u i = p i := fun i hi => (uF i (Or.inl hi)).trans ((congrFun eg1 i).trans (up_n (by omega)))
        obtain ⟨a0, f0, fl0, hS0, -⟩ := id uS
        refine sw_aload_n (pc' := 108) rfl dX5_zip_107 rfl ?_
        obtain ⟨vp1, vp2, vp3, vp4⟩ := pot (m := 16) (q := 0 + L) (K := 12 * i + 28) (by omega) (by omega)
        refine sw_V (M' := MJ4_append_15ec4) (d' := d - 1) (bc' := 1) (bs' := (grC 16 (0 + L))) (ci := 1) (as := [_]) dX5_zip_108 w_1356 ok_J4_append_15ec4 (j_appendS uS (Nat.le_refl _) (by omega) (by omega) ((hS.fr (h' := u) (fun i _ hi => uG i hi) (Nat.le_refl _)).st.k) (by omega) (by omega) (Nat.le_refl _) (Nat.le_refl _)) hS0 rfl (by omega) (Nat.le_of_ble_eq_true rfl) (by omega) (by omega) (fun E h' n' _ z => sbo_x z) (sbo_k (fun v vn vk vS vF => ?_))
        obtain ⟨av, fv, flv, hSv, -⟩ := id vS
        have vlt := vS.lt
        have vG : ∀ i, i < pn → v i = p i := fun i hi => (vF i (Or.inl hi)).trans (uG i hi)
        have hSv9 : StF v pn t L c := (hS.fr (h' := v) (fun i _ hi => vG i hi) (Nat.le_refl _)).st
        obtain ⟨tv, tf, tr, ht9, hv9, hf9, htl9, hvl9⟩ := id hSv9
        refine sw_aload_n (pc' := 112) rfl dX5_zip_111 rfl ?_
        refine sw_V (M' := MJ0_isEmpty_aae02) (d' := d - 1) (bc' := 0) (bs' := 0) (ci := 0) (as := []) dX5_zip_112 w_1395 ok_J0_isEmpty_aae02 (j_sempty hSv9 (by omega)) ht9 rfl (by omega) (Nat.le_of_ble_eq_true rfl) (Nat.zero_le _) (Nat.zero_le _) (fun E h' n' _ z => det_x z) (det_k ?_)
        refine sw_if_eq (pc' := 118) (tgt := 123) rfl dX5_zip_115 (by decide +kernel) (fun c115 => ?_) (fun c115 => ?_)
        · refine sw_ldcS (pc' := 125) rfl dX5_zip_123 (SRm 21 rfl) (by decide +kernel) ?_
          obtain ⟨wp1, wp2, wp3, wp4⟩ := pot (m := (capN 16 (0 + L))) (q := 0 + L + 1) (K := 12 * i + 28) (by omega) (by omega)
          refine sw_V (M' := MJ4_append_15ec4) (d' := d - 1) (bc' := 1) (bs' := (grC (capN 16 (0 + L)) (0 + L + 1))) (ci := 1) (as := [_]) dX5_zip_125 w_1356 ok_J4_append_15ec4 (j_appendS vS (Nat.le_refl _) (by omega) (by omega) ((hT.fr (fun i hi => (vG i (by omega)).trans (hG i (by omega) (by omega)))).2.2.2.1.c (by omega)) (by omega) (by omega) (Nat.le_refl _) (Nat.le_refl _)) hSv rfl (by omega) (Nat.le_of_ble_eq_true rfl) (by omega) (by omega) (fun E h' n' _ z => sbo_x z) (sbo_k (fun w wn wk wS wF => ?_))
          obtain ⟨aw, fw, flw, hSw, -⟩ := id wS
          have wlt := wS.lt
          have wG : ∀ i, i < pn → w i = p i := fun i hi => (wF i (Or.inl hi)).trans (vG i hi)
          obtain ⟨Gw, hGw, eGw⟩ := hM.out
          refine sw_aload_n (pc' := 129) rfl dX5_zip_128 rfl ?_
          refine sw_iload_n (pc' := 130) rfl dX5_zip_129 rfl ?_
          have wM : MM w ρ τ σ 0 := hM.fr (fun i a b => wG i (by omega))
          refine sw_V (M' := MX5_give) (d' := d - 1) (bc' := 0) (bs' := 0) (ci := 6) (as := [_]) dX5_zip_130 w_1325 ok_X5_give (q_give wM hA hk hmk ovk hck eA hA3) wM.ob rfl (by omega) (Nat.le_of_ble_eq_true rfl) (Nat.zero_le _) (Nat.zero_le _) (fun E h' n' _ z => rp_x z) (rp_k (fun g gρ gτ gM gA gF => ?_))
          rw [ex]
          refine sw_S (M' := MX5_sign) (d' := d - 1) (bc' := 6) (bs' := 26) (as := [_]) dX5_zip_133 w_1358 ok_X5_sign (q_sign (k := x) (hT.fr (fun i hi => (gF i (by omega) (by omega)).trans ((wG i (by omega)).trans (hG i (by omega) (by omega))))) hx (by omega) (by omega) (Nat.le_refl _) (Nat.le_refl _)) (by omega) (Nat.le_of_ble_eq_true rfl) (by omega) (by omega) (fun E h' n' _ z => txo_x z) (txo_k (fun y1 y1n y1t y1L y1k y1l y1S y1F => ?_))
          obtain ⟨rp1, rp2, rp3, rp4⟩ := pot (m := (capN (capN 16 (0 + L)) (0 + L + 1))) (q := 0 + L + 1 + y1L) (K := 12 * i + 28) (by omega) (by omega)
          refine sw_V (M' := MJ4_append_15ec4) (d' := d - 1) (bc' := 1) (bs' := (grC (capN (capN 16 (0 + L)) (0 + L + 1)) (0 + L + 1 + y1L))) (ci := 1) (as := [_]) dX5_zip_136 w_1356 ok_J4_append_15ec4 (j_appendS (wS.frW (fun i h9 hi => (y1F i (by omega)).trans (gF i (by omega) hi)) (Nat.le_refl _)) (by omega) (by omega) (by omega) (y1S.k (by omega)) (by omega) (by omega) (Nat.le_refl _) (Nat.le_refl _)) ((y1F pn (by omega)).trans ((gF pn (by omega) (by omega)).trans hSw)) rfl (by omega) (Nat.le_of_ble_eq_true rfl) (by omega) (by omega) (fun E h' n' _ z => sbo_x z) (sbo_k (fun r rn rk rS rF => ?_))
          obtain ⟨ar, fr, flr, hSr, -⟩ := id rS
          have rlt := rS.lt
          have rG : ∀ i, i < 135 ∨ 158 ≤ i → i < pn → r i = p i := fun i a hi => (rF i (Or.inl hi)).trans ((y1F i (by omega)).trans ((gF i (by omega) (by omega)).trans (wG i hi)))
          have rR : RMo r (gvU σ k 1) 0 := RMo.fr ⟨gρ, gτ, gM, gA⟩ (fun i a b => (rF i (by omega)).trans (y1F i (by omega)))
          refine sw_ldcS (pc' := 141) rfl dX5_zip_139 (SRm 23 rfl) (by decide +kernel) ?_
          obtain ⟨lp1, lp2, lp3, lp4⟩ := pot (m := (capN (capN (capN 16 (0 + L)) (0 + L + 1)) (0 + L + 1 + y1L))) (q := 0 + L + 1 + y1L + 1) (K := 12 * i + 28) (by omega) (by omega)
          refine sw_V (M' := MJ4_append_15ec4) (d' := d - 1) (bc' := 1) (bs' := (grC (capN (capN (capN 16 (0 + L)) (0 + L + 1)) (0 + L + 1 + y1L)) (0 + L + 1 + y1L + 1))) (ci := 1) (as := [_]) dX5_zip_141 w_1356 ok_J4_append_15ec4 (j_appendS rS (Nat.le_refl _) (by omega) (by omega) ((hT.fr (fun i hi => (rG i (by omega) (by omega)).trans (hG i (by omega) (by omega)))).2.2.2.2.2.1.c (by omega)) (by omega) (by omega) (Nat.le_refl _) (Nat.le_refl _)) hSr rfl (by omega) (Nat.le_of_ble_eq_true rfl) (by omega) (by omega) (fun E h' n' _ z => sbo_x z) (sbo_k (fun l ln lk lS lF => ?_))
          obtain ⟨al, fl, fll, hSl, -⟩ := id lS
          have llt := lS.lt
          have lG : ∀ i, i < 135 ∨ 158 ≤ i → i < pn → l i = p i := fun i a hi => (lF i (Or.inl hi)).trans (rG i a hi)
          have lR : RMo l (gvU σ k 1) 0 := rR.fr (fun i a b => lF i (by omega))
          obtain ⟨lρ, lτ, lM, lA⟩ := lR
          refine sw_aload_n (pc' := 145) rfl dX5_zip_144 rfl ?_
          refine sw_iload_n (pc' := 146) rfl dX5_zip_145 rfl ?_
          refine sw_V (M' := MX5_give) (d' := d - 1) (bc' := 0) (bs' := 0) (ci := 6) (as := [_]) dX5_zip_146 w_1325 ok_X5_give (q_give (A := A2) lM lA hj hm1 (by rw [gv_wo hnj]; exact ovj) (by rw [gv_wo hnj]; exact hcj) ((gv_ah hnj).trans eA2) (by rw [gv_wo hnj]; exact hA4)) lM.ob rfl (by omega) (Nat.le_of_ble_eq_true rfl) (Nat.zero_le _) (Nat.zero_le _) (fun E h' n' _ z => rp_x z) (rp_k (fun o oρ oτ oM oA oF => ?_))
          rw [show (gvU σ k 1).1 (wO (gvU σ k 1) j) A2 = nI y from by rw [gv_wo hnj]; exact ey]
          refine sw_S (M' := MX5_sign) (d' := d - 1) (bc' := 6) (bs' := 26) (as := [_]) dX5_zip_149 w_1358 ok_X5_sign (q_sign (k := y) (hT.fr (fun i hi => (oF i (by omega) (by omega)).trans ((lG i (by omega) (by omega)).trans (hG i (by omega) (by omega))))) hy (by omega) (by omega) (Nat.le_refl _) (Nat.le_refl _)) (by omega) (Nat.le_of_ble_eq_true rfl) (by omega) (by omega) (fun E h' n' _ z => txo_x z) (txo_k (fun y2 y2n y2t y2L y2k y2l y2S y2F => ?_))
          obtain ⟨ep1, ep2, ep3, ep4⟩ := pot (m := (capN (capN (capN (capN 16 (0 + L)) (0 + L + 1)) (0 + L + 1 + y1L)) (0 + L + 1 + y1L + 1))) (q := 0 + L + 1 + y1L + 1 + y2L) (K := 12 * i + 28) (by omega) (by omega)
          refine sw_V (M' := MJ4_append_15ec4) (d' := d - 1) (bc' := 1) (bs' := (grC (capN (capN (capN (capN 16 (0 + L)) (0 + L + 1)) (0 + L + 1 + y1L)) (0 + L + 1 + y1L + 1)) (0 + L + 1 + y1L + 1 + y2L))) (ci := 1) (as := [_]) dX5_zip_152 w_1356 ok_J4_append_15ec4 (j_appendS (lS.frW (fun i h9 hi => (y2F i (by omega)).trans (oF i (by omega) hi)) (Nat.le_refl _)) (by omega) (by omega) (by omega) (y2S.k (by omega)) (by omega) (by omega) (Nat.le_refl _) (Nat.le_refl _)) ((y2F pn (by omega)).trans ((oF pn (by omega) (by omega)).trans hSl)) rfl (by omega) (Nat.le_of_ble_eq_true rfl) (by omega) (by omega) (fun E h' n' _ z => sbo_x z) (sbo_k (fun e en ek eS eF => ?_))
          obtain ⟨ae, fe, fle, hSe, -⟩ := id eS
          have elt := eS.lt
          have eG : ∀ i, i < 135 ∨ 158 ≤ i → i < pn → e i = p i := fun i a hi => (eF i (Or.inl hi)).trans ((y2F i (by omega)).trans ((oF i (by omega) (by omega)).trans (lG i a hi)))
          have eR : RMo e (gvU (gvU σ k 1) j 1) 0 := RMo.fr ⟨oρ, oτ, oM, oA⟩ (fun i a b => (eF i (by omega)).trans (y2F i (by omega)))
          refine sw_V (M' := MJ4_toString_0e30d) (d' := d - 1) (bc' := 2) (bs' := (0 + L + 1 + y1L + 1 + y2L + 4)) (ci := 1) (as := []) dX5_zip_155 w_1363 ok_J4_toString_0e30d (j_toString eS (by omega) (by omega) (Nat.le_refl _) (Nat.le_refl _) (by omega)) hSe rfl (by omega) (Nat.le_of_ble_eq_true rfl) (by omega) (by omega) (fun E h' n' _ z => spo_x z) (spo_k (fun s sn t2 sk sS sF => ?_))
          refine sw_astore_n (pc' := 159) (lv' := [(3, _), (0, _), (1, _), (2, _)]) rfl dX5_zip_158 (by decide +kernel) rfl ?_
          refine sw_goto (tgt := 84) dX5_zip_159 (by decide +kernel) ?_
          have e9 : zpU σ k j (m + 1) = zpU (gvU (gvU σ k 1) j 1) k j m := if_pos ⟨g1, g2⟩
          have eX : taI (σ.1 (wO σ k)) (σ.2.1 (wO σ k)) (wAh σ k) = nI x := by rw [eA, taI_in hA3 hck]; exact ex
          have eY : taI ((gvU σ k 1).1 (wO (gvU σ k 1) j)) ((gvU σ k 1).2.1 (wO (gvU σ k 1) j)) (wAh (gvU σ k 1) j) = nI y := by
            rw [gv_wo hnj, gv_ah hnj, eA2]
            show taI (σ.1 (wO σ j)) (σ.2.1 (wO σ j)) (nI A2) = nI y
            rw [taI_in hA4 hcj]
            exact ey
          have eB : (if c = [] then ([] : List Int32) else [32]) = [32] := if_neg (fun e9 => of_decide_eq_false (bI_0 c115) (hcl.symm.trans (congrArg List.length e9)))
          rw [e9, zpL_t g1 g2 eX hx eY hy, eB]
          refine ih (i + 1) _ _ sn t2 _ s _ _ (by omega) (eR.fr (fun i a b => sF i (by omega))) V2 (by rw [gv_wk hne, gv_mk]; exact hmk) (by rw [gv_mk]; exact hm1) ((gv_st hne).trans (wSt_g.trans hs)) (wSt_g.trans ((gv_st hnj).trans hs2)) (fun A9 e9 => ?_) (by omega) (sS.low (by omega)) (by omega) (fun i a hi => (sF i (by omega)).trans ((eG i a (by omega)).trans (hG i a hi))) (by omega) (by omega)
          rw [gv_ah hne, wAh_g eA] at e9
          rw [gv_wo hne]
          have e8 : σ.2.1 (wO σ k) ≤ 12 := hck
          have e7 : wO (gvU σ k 1) k = wO σ k := by unfold wO gvU wU; dsimp only; rw [up_s]; rfl
          rw [e7]
          show σ.2.1 (wO σ k) ≤ A9 + m
          have e6 : A + 1 = A9 ∨ 2 ^ 31 ≤ A9 := (Nat.lt_or_ge A9 (2 ^ 31)).elim (fun g => Or.inl ((nI_eq (by omega) g).mp e9)) Or.inr
          omega
        · refine sw_ldcS (pc' := 120) rfl dX5_zip_118 (SRm 19 rfl) (by decide +kernel) ?_
          refine sw_goto (tgt := 125) dX5_zip_120 (by decide +kernel) ?_
          obtain ⟨wp1, wp2, wp3, wp4⟩ := pot (m := (capN 16 (0 + L))) (q := 0 + L + 0) (K := 12 * i + 28) (by omega) (by omega)
          refine sw_V (M' := MJ4_append_15ec4) (d' := d - 1) (bc' := 1) (bs' := (grC (capN 16 (0 + L)) (0 + L + 0))) (ci := 1) (as := [_]) dX5_zip_125 w_1356 ok_J4_append_15ec4 (j_appendS vS (Nat.le_refl _) (by omega) (by omega) ((hT.fr (fun i hi => (vG i (by omega)).trans (hG i (by omega) (by omega)))).2.2.1.c (by omega)) (by omega) (by omega) (Nat.le_refl _) (Nat.le_refl _)) hSv rfl (by omega) (Nat.le_of_ble_eq_true rfl) (by omega) (by omega) (fun E h' n' _ z => sbo_x z) (sbo_k (fun w wn wk wS wF => ?_))
          obtain ⟨aw, fw, flw, hSw, -⟩ := id wS
          have wlt := wS.lt
          have wG : ∀ i, i < pn → w i = p i := fun i hi => (wF i (Or.inl hi)).trans (vG i hi)
          obtain ⟨Gw, hGw, eGw⟩ := hM.out
          refine sw_aload_n (pc' := 129) rfl dX5_zip_128 rfl ?_
          refine sw_iload_n (pc' := 130) rfl dX5_zip_129 rfl ?_
          have wM : MM w ρ τ σ 0 := hM.fr (fun i a b => wG i (by omega))
          refine sw_V (M' := MX5_give) (d' := d - 1) (bc' := 0) (bs' := 0) (ci := 6) (as := [_]) dX5_zip_130 w_1325 ok_X5_give (q_give wM hA hk hmk ovk hck eA hA3) wM.ob rfl (by omega) (Nat.le_of_ble_eq_true rfl) (Nat.zero_le _) (Nat.zero_le _) (fun E h' n' _ z => rp_x z) (rp_k (fun g gρ gτ gM gA gF => ?_))
          rw [ex]
          refine sw_S (M' := MX5_sign) (d' := d - 1) (bc' := 6) (bs' := 26) (as := [_]) dX5_zip_133 w_1358 ok_X5_sign (q_sign (k := x) (hT.fr (fun i hi => (gF i (by omega) (by omega)).trans ((wG i (by omega)).trans (hG i (by omega) (by omega))))) hx (by omega) (by omega) (Nat.le_refl _) (Nat.le_refl _)) (by omega) (Nat.le_of_ble_eq_true rfl) (by omega) (by omega) (fun E h' n' _ z => txo_x z) (txo_k (fun y1 y1n y1t y1L y1k y1l y1S y1F => ?_))
          obtain ⟨rp1, rp2, rp3, rp4⟩ := pot (m := (capN (capN 16 (0 + L)) (0 + L + 0))) (q := 0 + L + 0 + y1L) (K := 12 * i + 28) (by omega) (by omega)
          refine sw_V (M' := MJ4_append_15ec4) (d' := d - 1) (bc' := 1) (bs' := (grC (capN (capN 16 (0 + L)) (0 + L + 0)) (0 + L + 0 + y1L))) (ci := 1) (as := [_]) dX5_zip_136 w_1356 ok_J4_append_15ec4 (j_appendS (wS.frW (fun i h9 hi => (y1F i (by omega)).trans (gF i (by omega) hi)) (Nat.le_refl _)) (by omega) (by omega) (by omega) (y1S.k (by omega)) (by omega) (by omega) (Nat.le_refl _) (Nat.le_refl _)) ((y1F pn (by omega)).trans ((gF pn (by omega) (by omega)).trans hSw)) rfl (by omega) (Nat.le_of_ble_eq_true rfl) (by omega) (by omega) (fun E h' n' _ z => sbo_x z) (sbo_k (fun r rn rk rS rF => ?_))
          obtain ⟨ar, fr, flr, hSr, -⟩ := id rS
          have rlt := rS.lt
          have rG : ∀ i, i < 135 ∨ 158 ≤ i → i < pn → r i = p i := fun i a hi => (rF i (Or.inl hi)).trans ((y1F i (by omega)).trans ((gF i (by omega) (by omega)).trans (wG i hi)))
          have rR : RMo r (gvU σ k 1) 0 := RMo.fr ⟨gρ, gτ, gM, gA⟩ (fun i a b => (rF i (by omega)).trans (y1F i (by omega)))
          refine sw_ldcS (pc' := 141) rfl dX5_zip_139 (SRm 23 rfl) (by decide +kernel) ?_
          obtain ⟨lp1, lp2, lp3, lp4⟩ := pot (m := (capN (capN (capN 16 (0 + L)) (0 + L + 0)) (0 + L + 0 + y1L))) (q := 0 + L + 0 + y1L + 1) (K := 12 * i + 28) (by omega) (by omega)
          refine sw_V (M' := MJ4_append_15ec4) (d' := d - 1) (bc' := 1) (bs' := (grC (capN (capN (capN 16 (0 + L)) (0 + L + 0)) (0 + L + 0 + y1L)) (0 + L + 0 + y1L + 1))) (ci := 1) (as := [_]) dX5_zip_141 w_1356 ok_J4_append_15ec4 (j_appendS rS (Nat.le_refl _) (by omega) (by omega) ((hT.fr (fun i hi => (rG i (by omega) (by omega)).trans (hG i (by omega) (by omega)))).2.2.2.2.2.1.c (by omega)) (by omega) (by omega) (Nat.le_refl _) (Nat.le_refl _)) hSr rfl (by omega) (Nat.le_of_ble_eq_true rfl) (by omega) (by omega) (fun E h' n' _ z => sbo_x z) (sbo_k (fun l ln lk lS lF => ?_))
          obtain ⟨al, fl, fll, hSl, -⟩ := id lS
          have llt := lS.lt
          have lG : ∀ i, i < 135 ∨ 158 ≤ i → i < pn → l i = p i := fun i a hi => (lF i (Or.inl hi)).trans (rG i a hi)
          have lR : RMo l (gvU σ k 1) 0 := rR.fr (fun i a b => lF i (by omega))
          obtain ⟨lρ, lτ, lM, lA⟩ := lR
          refine sw_aload_n (pc' := 145) rfl dX5_zip_144 rfl ?_
          refine sw_iload_n (pc' := 146) rfl dX5_zip_145 rfl ?_
          refine sw_V (M' := MX5_give) (d' := d - 1) (bc' := 0) (bs' := 0) (ci := 6) (as := [_]) dX5_zip_146 w_1325 ok_X5_give (q_give (A := A2) lM lA hj hm1 (by rw [gv_wo hnj]; exact ovj) (by rw [gv_wo hnj]; exact hcj) ((gv_ah hnj).trans eA2) (by rw [gv_wo hnj]; exact hA4)) lM.ob rfl (by omega) (Nat.le_of_ble_eq_true rfl) (Nat.zero_le _) (Nat.zero_le _) (fun E h' n' _ z => rp_x z) (rp_k (fun o oρ oτ oM oA oF => ?_))
          rw [show (gvU σ k 1).1 (wO (gvU σ k 1) j) A2 = nI y from by rw [gv_wo hnj]; exact ey]
          refine sw_S (M' := MX5_sign) (d' := d - 1) (bc' := 6) (bs' := 26) (as := [_]) dX5_zip_149 w_1358 ok_X5_sign (q_sign (k := y) (hT.fr (fun i hi => (oF i (by omega) (by omega)).trans ((lG i (by omega) (by omega)).trans (hG i (by omega) (by omega))))) hy (by omega) (by omega) (Nat.le_refl _) (Nat.le_refl _)) (by omega) (Nat.le_of_ble_eq_true rfl) (by omega) (by omega) (fun E h' n' _ z => txo_x z) (txo_k (fun y2 y2n y2t y2L y2k y2l y2S y2F => ?_))
          obtain ⟨ep1, ep2, ep3, ep4⟩ := pot (m := (capN (capN (capN (capN 16 (0 + L)) (0 + L + 0)) (0 + L + 0 + y1L)) (0 + L + 0 + y1L + 1))) (q := 0 + L + 0 + y1L + 1 + y2L) (K := 12 * i + 28) (by omega) (by omega)
          refine sw_V (M' := MJ4_append_15ec4) (d' := d - 1) (bc' := 1) (bs' := (grC (capN (capN (capN (capN 16 (0 + L)) (0 + L + 0)) (0 + L + 0 + y1L)) (0 + L + 0 + y1L + 1)) (0 + L + 0 + y1L + 1 + y2L))) (ci := 1) (as := [_]) dX5_zip_152 w_1356 ok_J4_append_15ec4 (j_appendS (lS.frW (fun i h9 hi => (y2F i (by omega)).trans (oF i (by omega) hi)) (Nat.le_refl _)) (by omega) (by omega) (by omega) (y2S.k (by omega)) (by omega) (by omega) (Nat.le_refl _) (Nat.le_refl _)) ((y2F pn (by omega)).trans ((oF pn (by omega) (by omega)).trans hSl)) rfl (by omega) (Nat.le_of_ble_eq_true rfl) (by omega) (by omega) (fun E h' n' _ z => sbo_x z) (sbo_k (fun e en ek eS eF => ?_))
          obtain ⟨ae, fe, fle, hSe, -⟩ := id eS
          have elt := eS.lt
          have eG : ∀ i, i < 135 ∨ 158 ≤ i → i < pn → e i = p i := fun i a hi => (eF i (Or.inl hi)).trans ((y2F i (by omega)).trans ((oF i (by omega) (by omega)).trans (lG i a hi)))
          have eR : RMo e (gvU (gvU σ k 1) j 1) 0 := RMo.fr ⟨oρ, oτ, oM, oA⟩ (fun i a b => (eF i (by omega)).trans (y2F i (by omega)))
          refine sw_V (M' := MJ4_toString_0e30d) (d' := d - 1) (bc' := 2) (bs' := (0 + L + 0 + y1L + 1 + y2L + 4)) (ci := 1) (as := []) dX5_zip_155 w_1363 ok_J4_toString_0e30d (j_toString eS (by omega) (by omega) (Nat.le_refl _) (Nat.le_refl _) (by omega)) hSe rfl (by omega) (Nat.le_of_ble_eq_true rfl) (by omega) (by omega) (fun E h' n' _ z => spo_x z) (spo_k (fun s sn t2 sk sS sF => ?_))
          refine sw_astore_n (pc' := 159) (lv' := [(3, _), (0, _), (1, _), (2, _)]) rfl dX5_zip_158 (by decide +kernel) rfl ?_
          refine sw_goto (tgt := 84) dX5_zip_159 (by decide +kernel) ?_
          have e9 : zpU σ k j (m + 1) = zpU (gvU (gvU σ k 1) j 1) k j m := if_pos ⟨g1, g2⟩
          have eX : taI (σ.1 (wO σ k)) (σ.2.1 (wO σ k)) (wAh σ k) = nI x := by rw [eA, taI_in hA3 hck]; exact ex
          have eY : taI ((gvU σ k 1).1 (wO (gvU σ k 1) j)) ((gvU σ k 1).2.1 (wO (gvU σ k 1) j)) (wAh (gvU σ k 1) j) = nI y := by
            rw [gv_wo hnj, gv_ah hnj, eA2]
            show taI (σ.1 (wO σ j)) (σ.2.1 (wO σ j)) (nI A2) = nI y
            rw [taI_in hA4 hcj]
            exact ey
          have eB : (if c = [] then ([] : List Int32) else [32]) = [] := if_pos (List.eq_nil_of_length_eq_zero (hcl.trans (of_decide_eq_true (bI_1 c115))))
          rw [e9, zpL_t g1 g2 eX hx eY hy, eB]
          refine ih (i + 1) _ _ sn t2 _ s _ _ (by omega) (eR.fr (fun i a b => sF i (by omega))) V2 (by rw [gv_wk hne, gv_mk]; exact hmk) (by rw [gv_mk]; exact hm1) ((gv_st hne).trans (wSt_g.trans hs)) (wSt_g.trans ((gv_st hnj).trans hs2)) (fun A9 e9 => ?_) (by omega) (sS.low (by omega)) (by omega) (fun i a hi => (sF i (by omega)).trans ((eG i a (by omega)).trans (hG i a hi))) (by omega) (by omega)
          rw [gv_ah hne, wAh_g eA] at e9
          rw [gv_wo hne]
          have e8 : σ.2.1 (wO σ k) ≤ 12 := hck
          have e7 : wO (gvU σ k 1) k = wO σ k := by unfold wO gvU wU; dsimp only; rw [up_s]; rfl
          rw [e7]
          show σ.2.1 (wO σ k) ≤ A9 + m
          have e6 : A + 1 = A9 ∨ 2 ^ 31 ≤ A9 := (Nat.lt_or_ge A9 (2 ^ 31)).elim (fun g => Or.inl ((nI_eq (by omega) g).mp e9)) Or.inr
          omega
theorem q_zip {h : AH} {d bc bs n : Nat} {σ : CS} {th : Int32} {a b : Int32} (hR : RMo h σ th) (hI : Iv σ) (hn : 159 ≤ n) (hd : 12 ≤ d) (h1 : 300 ≤ bc) (h2 : 3400 ≤ bs) (hT : TXT h) {N : Nat} (hV : IV σ N) (hN : N < 2 ^ 31) : SM SR0 MX5_zip d bc bs [.ref 135, .int a, .int b] h n (PT h n (tc sI sA) (opZip σ a b) (tcZ σ a b)) := by
  obtain ⟨ρ, τ, hM, hA⟩ := hR
  obtain ⟨G0, hG0, eG0⟩ := hM.out
  refine sm_of pn_OverwalksModel rfl (Nat.le_of_ble_eq_true rfl) ?_
  rcases idxN 6 (by decide +kernel) a with q | ⟨k, hk, rfl⟩
  · rcases idxN 6 (by decide +kernel) b with q2 | ⟨j, hj, rfl⟩
    · refine sw_aload_n (pc' := 1) rfl dX5_zip_0 rfl ?_
      refine sw_iload_n (pc' := 2) rfl dX5_zip_1 rfl ?_
      refine sw_S (M' := MX5_isNoWalk) (d' := d - 1) (bc' := 0) (bs' := 0) (as := [_]) dX5_zip_2 w_1306 ok_X5_isNoWalk (q_isNoWalk (by omega)) (by omega) (Nat.le_of_ble_eq_true rfl) (Nat.zero_le _) (Nat.zero_le _) (fun E h' n' _ z => det_x z) (det_k ?_)
      rw [show inB a 0 5 = false from no_x (N := 5) (by decide +kernel) q]
      show SW _ _ _ _ _ _ _ (.int 1 :: _) _ _ _
      refine sw_if_ne (pc' := 8) (tgt := 15) rfl dX5_zip_5 (by decide +kernel) (fun c5 => ?_) (fun c5 => ?_)
      · refine sw_iconst (pc' := 16) (v := 1) rfl dX5_zip_15 (by decide +kernel) ?_
        refine sw_goto (tgt := 20) dX5_zip_16 (by decide +kernel) ?_
        refine sw_iload_n (pc' := 21) rfl dX5_zip_20 rfl ?_
        refine sw_iload_n (pc' := 22) rfl dX5_zip_21 rfl ?_
        refine sw_icmp_ne (pc' := 25) (tgt := 29) rfl dX5_zip_22 (by decide +kernel) (fun c22 => ?_) (fun c22 => ?_)
        · refine sw_iconst (pc' := 30) (v := 0) rfl dX5_zip_29 (by decide +kernel) ?_
          refine sw_aload_n (pc' := 31) rfl dX5_zip_30 rfl ?_
          refine sw_iload_n (pc' := 32) rfl dX5_zip_31 rfl ?_
          refine sw_V (M' := MX5_isUnmade) (d' := d - 1) (bc' := 0) (bs' := 0) (ci := 6) (as := [_]) dX5_zip_32 w_1313 ok_X5_isUnmade (q_isUnmade_x hM (no_x (N := 5) (by decide +kernel) q) (by omega)) hM.ob rfl (by omega) (Nat.le_of_ble_eq_true rfl) (Nat.zero_le _) (Nat.zero_le _) (fun E h' n' _ z => det_x z) (det_k ?_)
          refine sw_if_ne (pc' := 38) (tgt := 46) rfl dX5_zip_35 (by decide +kernel) (fun c35 => ?_) (fun c35 => ?_)
          · exact absurd c35 (by decide +kernel)
          · refine sw_aload_n (pc' := 39) rfl dX5_zip_38 rfl ?_
            refine sw_iload_n (pc' := 40) rfl dX5_zip_39 rfl ?_
            refine sw_V (M' := MX5_isUnmade) (d' := d - 1) (bc' := 0) (bs' := 0) (ci := 6) (as := [_]) dX5_zip_40 w_1313 ok_X5_isUnmade (q_isUnmade_x hM (no_x (N := 5) (by decide +kernel) q2) (by omega)) hM.ob rfl (by omega) (Nat.le_of_ble_eq_true rfl) (Nat.zero_le _) (Nat.zero_le _) (fun E h' n' _ z => det_x z) (det_k ?_)
            refine sw_if_eq (pc' := 46) (tgt := 50) rfl dX5_zip_43 (by decide +kernel) (fun c43 => ?_) (fun c43 => ?_)
            · refine sw_iconst (pc' := 51) (v := 0) rfl dX5_zip_50 (by decide +kernel) ?_
              refine sw_V (M' := MX5_isStopped) (d' := d - 1) (bc' := 0) (bs' := 0) (ci := 6) (as := [_, _, _]) dX5_zip_51 w_1174 ok_X5_isStopped (q_isStopped (a := true) (b := false) (c := false) hM hA) hM.ob rfl (by omega) (Nat.le_of_ble_eq_true rfl) (Nat.zero_le _) (Nat.zero_le _) (fun E h' n' _ z => rp_x z) (rp_k (fun p51 p51ρ p51τ p51M p51A p51F => ?_))
              obtain ⟨Gp51, hGp51, eGp51⟩ := p51M.out
              show SW _ _ _ _ _ _ _ (.int 1 :: _) _ _ _
              refine sw_if_eq (pc' := 57) (tgt := 60) rfl dX5_zip_54 (by decide +kernel) (fun c54 => ?_) (fun c54 => ?_)
              · exact absurd c54 (by decide +kernel)
              · refine sw_ldcS (pc' := 59) rfl dX5_zip_57 (SRm 19 rfl) (by decide +kernel) ?_
                refine sw_ret (v := some _) ⟨dX5_zip_59, _, rfl, Or.inl ⟨_, rfl⟩⟩ ?_
                rw [opZip, onWk_x q]
                exact pt_x tc_1 p51M p51A p51F (Nat.le_refl _)
            · exact absurd c43 (by decide +kernel)
        · refine sw_iconst (pc' := 26) (v := 1) rfl dX5_zip_25 (by decide +kernel) ?_
          refine sw_goto (tgt := 30) dX5_zip_26 (by decide +kernel) ?_
          refine sw_aload_n (pc' := 31) rfl dX5_zip_30 rfl ?_
          refine sw_iload_n (pc' := 32) rfl dX5_zip_31 rfl ?_
          refine sw_V (M' := MX5_isUnmade) (d' := d - 1) (bc' := 0) (bs' := 0) (ci := 6) (as := [_]) dX5_zip_32 w_1313 ok_X5_isUnmade (q_isUnmade_x hM (no_x (N := 5) (by decide +kernel) q) (by omega)) hM.ob rfl (by omega) (Nat.le_of_ble_eq_true rfl) (Nat.zero_le _) (Nat.zero_le _) (fun E h' n' _ z => det_x z) (det_k ?_)
          refine sw_if_ne (pc' := 38) (tgt := 46) rfl dX5_zip_35 (by decide +kernel) (fun c35 => ?_) (fun c35 => ?_)
          · exact absurd c35 (by decide +kernel)
          · refine sw_aload_n (pc' := 39) rfl dX5_zip_38 rfl ?_
            refine sw_iload_n (pc' := 40) rfl dX5_zip_39 rfl ?_
            refine sw_V (M' := MX5_isUnmade) (d' := d - 1) (bc' := 0) (bs' := 0) (ci := 6) (as := [_]) dX5_zip_40 w_1313 ok_X5_isUnmade (q_isUnmade_x hM (no_x (N := 5) (by decide +kernel) q2) (by omega)) hM.ob rfl (by omega) (Nat.le_of_ble_eq_true rfl) (Nat.zero_le _) (Nat.zero_le _) (fun E h' n' _ z => det_x z) (det_k ?_)
            refine sw_if_eq (pc' := 46) (tgt := 50) rfl dX5_zip_43 (by decide +kernel) (fun c43 => ?_) (fun c43 => ?_)
            · refine sw_iconst (pc' := 51) (v := 0) rfl dX5_zip_50 (by decide +kernel) ?_
              refine sw_V (M' := MX5_isStopped) (d' := d - 1) (bc' := 0) (bs' := 0) (ci := 6) (as := [_, _, _]) dX5_zip_51 w_1174 ok_X5_isStopped (q_isStopped (a := true) (b := true) (c := false) hM hA) hM.ob rfl (by omega) (Nat.le_of_ble_eq_true rfl) (Nat.zero_le _) (Nat.zero_le _) (fun E h' n' _ z => rp_x z) (rp_k (fun p51 p51ρ p51τ p51M p51A p51F => ?_))
              obtain ⟨Gp51, hGp51, eGp51⟩ := p51M.out
              show SW _ _ _ _ _ _ _ (.int 1 :: _) _ _ _
              refine sw_if_eq (pc' := 57) (tgt := 60) rfl dX5_zip_54 (by decide +kernel) (fun c54 => ?_) (fun c54 => ?_)
              · exact absurd c54 (by decide +kernel)
              · refine sw_ldcS (pc' := 59) rfl dX5_zip_57 (SRm 19 rfl) (by decide +kernel) ?_
                refine sw_ret (v := some _) ⟨dX5_zip_59, _, rfl, Or.inl ⟨_, rfl⟩⟩ ?_
                rw [opZip, onWk_x q]
                exact pt_x tc_1 p51M p51A p51F (Nat.le_refl _)
            · exact absurd c43 (by decide +kernel)
      · exact absurd c5 (by decide +kernel)
    have ovj := hI.2.2.2.2.2.2.1 j hj
    · refine sw_aload_n (pc' := 1) rfl dX5_zip_0 rfl ?_
      refine sw_iload_n (pc' := 2) rfl dX5_zip_1 rfl ?_
      refine sw_S (M' := MX5_isNoWalk) (d' := d - 1) (bc' := 0) (bs' := 0) (as := [_]) dX5_zip_2 w_1306 ok_X5_isNoWalk (q_isNoWalk (by omega)) (by omega) (Nat.le_of_ble_eq_true rfl) (Nat.zero_le _) (Nat.zero_le _) (fun E h' n' _ z => det_x z) (det_k ?_)
      rw [show inB a 0 5 = false from no_x (N := 5) (by decide +kernel) q]
      show SW _ _ _ _ _ _ _ (.int 1 :: _) _ _ _
      refine sw_if_ne (pc' := 8) (tgt := 15) rfl dX5_zip_5 (by decide +kernel) (fun c5 => ?_) (fun c5 => ?_)
      · refine sw_iconst (pc' := 16) (v := 1) rfl dX5_zip_15 (by decide +kernel) ?_
        refine sw_goto (tgt := 20) dX5_zip_16 (by decide +kernel) ?_
        refine sw_iload_n (pc' := 21) rfl dX5_zip_20 rfl ?_
        refine sw_iload_n (pc' := 22) rfl dX5_zip_21 rfl ?_
        refine sw_icmp_ne (pc' := 25) (tgt := 29) rfl dX5_zip_22 (by decide +kernel) (fun c22 => ?_) (fun c22 => ?_)
        · refine sw_iconst (pc' := 30) (v := 0) rfl dX5_zip_29 (by decide +kernel) ?_
          refine sw_aload_n (pc' := 31) rfl dX5_zip_30 rfl ?_
          refine sw_iload_n (pc' := 32) rfl dX5_zip_31 rfl ?_
          refine sw_V (M' := MX5_isUnmade) (d' := d - 1) (bc' := 0) (bs' := 0) (ci := 6) (as := [_]) dX5_zip_32 w_1313 ok_X5_isUnmade (q_isUnmade_x hM (no_x (N := 5) (by decide +kernel) q) (by omega)) hM.ob rfl (by omega) (Nat.le_of_ble_eq_true rfl) (Nat.zero_le _) (Nat.zero_le _) (fun E h' n' _ z => det_x z) (det_k ?_)
          refine sw_if_ne (pc' := 38) (tgt := 46) rfl dX5_zip_35 (by decide +kernel) (fun c35 => ?_) (fun c35 => ?_)
          · exact absurd c35 (by decide +kernel)
          · refine sw_aload_n (pc' := 39) rfl dX5_zip_38 rfl ?_
            refine sw_iload_n (pc' := 40) rfl dX5_zip_39 rfl ?_
            refine sw_V (M' := MX5_isUnmade) (d' := d - 1) (bc' := 0) (bs' := 0) (ci := 6) (as := [_]) dX5_zip_40 w_1313 ok_X5_isUnmade (q_isUnmade_k hM (k := j) (by omega) (hI.2.2.2.2.2.2.1 j (by omega)) (by omega)) hM.ob rfl (by omega) (Nat.le_of_ble_eq_true rfl) (Nat.zero_le _) (Nat.zero_le _) (fun E h' n' _ z => det_x z) (det_k ?_)
            refine sw_if_eq (pc' := 46) (tgt := 50) rfl dX5_zip_43 (by decide +kernel) (fun c43 => ?_) (fun c43 => ?_)
            · refine sw_iconst (pc' := 51) (v := 0) rfl dX5_zip_50 (by decide +kernel) ?_
              refine sw_V (M' := MX5_isStopped) (d' := d - 1) (bc' := 0) (bs' := 0) (ci := 6) (as := [_, _, _]) dX5_zip_51 w_1174 ok_X5_isStopped (q_isStopped (a := true) (b := false) (c := false) hM hA) hM.ob rfl (by omega) (Nat.le_of_ble_eq_true rfl) (Nat.zero_le _) (Nat.zero_le _) (fun E h' n' _ z => rp_x z) (rp_k (fun p51 p51ρ p51τ p51M p51A p51F => ?_))
              obtain ⟨Gp51, hGp51, eGp51⟩ := p51M.out
              show SW _ _ _ _ _ _ _ (.int 1 :: _) _ _ _
              refine sw_if_eq (pc' := 57) (tgt := 60) rfl dX5_zip_54 (by decide +kernel) (fun c54 => ?_) (fun c54 => ?_)
              · exact absurd c54 (by decide +kernel)
              · refine sw_ldcS (pc' := 59) rfl dX5_zip_57 (SRm 19 rfl) (by decide +kernel) ?_
                refine sw_ret (v := some _) ⟨dX5_zip_59, _, rfl, Or.inl ⟨_, rfl⟩⟩ ?_
                rw [opZip, onWk_x q]
                exact pt_x tc_1 p51M p51A p51F (Nat.le_refl _)
            · refine sw_iconst (pc' := 47) (v := 1) rfl dX5_zip_46 (by decide +kernel) ?_
              refine sw_goto (tgt := 51) dX5_zip_47 (by decide +kernel) ?_
              refine sw_V (M' := MX5_isStopped) (d' := d - 1) (bc' := 0) (bs' := 0) (ci := 6) (as := [_, _, _]) dX5_zip_51 w_1174 ok_X5_isStopped (q_isStopped (a := true) (b := false) (c := true) hM hA) hM.ob rfl (by omega) (Nat.le_of_ble_eq_true rfl) (Nat.zero_le _) (Nat.zero_le _) (fun E h' n' _ z => rp_x z) (rp_k (fun p51 p51ρ p51τ p51M p51A p51F => ?_))
              obtain ⟨Gp51, hGp51, eGp51⟩ := p51M.out
              show SW _ _ _ _ _ _ _ (.int 1 :: _) _ _ _
              refine sw_if_eq (pc' := 57) (tgt := 60) rfl dX5_zip_54 (by decide +kernel) (fun c54 => ?_) (fun c54 => ?_)
              · exact absurd c54 (by decide +kernel)
              · refine sw_ldcS (pc' := 59) rfl dX5_zip_57 (SRm 19 rfl) (by decide +kernel) ?_
                refine sw_ret (v := some _) ⟨dX5_zip_59, _, rfl, Or.inl ⟨_, rfl⟩⟩ ?_
                rw [opZip, onWk_x q]
                exact pt_x tc_1 p51M p51A p51F (Nat.le_refl _)
        · refine sw_iconst (pc' := 26) (v := 1) rfl dX5_zip_25 (by decide +kernel) ?_
          refine sw_goto (tgt := 30) dX5_zip_26 (by decide +kernel) ?_
          refine sw_aload_n (pc' := 31) rfl dX5_zip_30 rfl ?_
          refine sw_iload_n (pc' := 32) rfl dX5_zip_31 rfl ?_
          refine sw_V (M' := MX5_isUnmade) (d' := d - 1) (bc' := 0) (bs' := 0) (ci := 6) (as := [_]) dX5_zip_32 w_1313 ok_X5_isUnmade (q_isUnmade_x hM (no_x (N := 5) (by decide +kernel) q) (by omega)) hM.ob rfl (by omega) (Nat.le_of_ble_eq_true rfl) (Nat.zero_le _) (Nat.zero_le _) (fun E h' n' _ z => det_x z) (det_k ?_)
          refine sw_if_ne (pc' := 38) (tgt := 46) rfl dX5_zip_35 (by decide +kernel) (fun c35 => ?_) (fun c35 => ?_)
          · exact absurd c35 (by decide +kernel)
          · refine sw_aload_n (pc' := 39) rfl dX5_zip_38 rfl ?_
            refine sw_iload_n (pc' := 40) rfl dX5_zip_39 rfl ?_
            refine sw_V (M' := MX5_isUnmade) (d' := d - 1) (bc' := 0) (bs' := 0) (ci := 6) (as := [_]) dX5_zip_40 w_1313 ok_X5_isUnmade (q_isUnmade_k hM (k := j) (by omega) (hI.2.2.2.2.2.2.1 j (by omega)) (by omega)) hM.ob rfl (by omega) (Nat.le_of_ble_eq_true rfl) (Nat.zero_le _) (Nat.zero_le _) (fun E h' n' _ z => det_x z) (det_k ?_)
            refine sw_if_eq (pc' := 46) (tgt := 50) rfl dX5_zip_43 (by decide +kernel) (fun c43 => ?_) (fun c43 => ?_)
            · refine sw_iconst (pc' := 51) (v := 0) rfl dX5_zip_50 (by decide +kernel) ?_
              refine sw_V (M' := MX5_isStopped) (d' := d - 1) (bc' := 0) (bs' := 0) (ci := 6) (as := [_, _, _]) dX5_zip_51 w_1174 ok_X5_isStopped (q_isStopped (a := true) (b := true) (c := false) hM hA) hM.ob rfl (by omega) (Nat.le_of_ble_eq_true rfl) (Nat.zero_le _) (Nat.zero_le _) (fun E h' n' _ z => rp_x z) (rp_k (fun p51 p51ρ p51τ p51M p51A p51F => ?_))
              obtain ⟨Gp51, hGp51, eGp51⟩ := p51M.out
              show SW _ _ _ _ _ _ _ (.int 1 :: _) _ _ _
              refine sw_if_eq (pc' := 57) (tgt := 60) rfl dX5_zip_54 (by decide +kernel) (fun c54 => ?_) (fun c54 => ?_)
              · exact absurd c54 (by decide +kernel)
              · refine sw_ldcS (pc' := 59) rfl dX5_zip_57 (SRm 19 rfl) (by decide +kernel) ?_
                refine sw_ret (v := some _) ⟨dX5_zip_59, _, rfl, Or.inl ⟨_, rfl⟩⟩ ?_
                rw [opZip, onWk_x q]
                exact pt_x tc_1 p51M p51A p51F (Nat.le_refl _)
            · refine sw_iconst (pc' := 47) (v := 1) rfl dX5_zip_46 (by decide +kernel) ?_
              refine sw_goto (tgt := 51) dX5_zip_47 (by decide +kernel) ?_
              refine sw_V (M' := MX5_isStopped) (d' := d - 1) (bc' := 0) (bs' := 0) (ci := 6) (as := [_, _, _]) dX5_zip_51 w_1174 ok_X5_isStopped (q_isStopped (a := true) (b := true) (c := true) hM hA) hM.ob rfl (by omega) (Nat.le_of_ble_eq_true rfl) (Nat.zero_le _) (Nat.zero_le _) (fun E h' n' _ z => rp_x z) (rp_k (fun p51 p51ρ p51τ p51M p51A p51F => ?_))
              obtain ⟨Gp51, hGp51, eGp51⟩ := p51M.out
              show SW _ _ _ _ _ _ _ (.int 1 :: _) _ _ _
              refine sw_if_eq (pc' := 57) (tgt := 60) rfl dX5_zip_54 (by decide +kernel) (fun c54 => ?_) (fun c54 => ?_)
              · exact absurd c54 (by decide +kernel)
              · refine sw_ldcS (pc' := 59) rfl dX5_zip_57 (SRm 19 rfl) (by decide +kernel) ?_
                refine sw_ret (v := some _) ⟨dX5_zip_59, _, rfl, Or.inl ⟨_, rfl⟩⟩ ?_
                rw [opZip, onWk_x q]
                exact pt_x tc_1 p51M p51A p51F (Nat.le_refl _)
      · exact absurd c5 (by decide +kernel)
  have ovk := hI.2.2.2.2.2.2.1 k hk
  rcases idxN 6 (by decide +kernel) b with q2 | ⟨j, hj, rfl⟩
  · refine sw_aload_n (pc' := 1) rfl dX5_zip_0 rfl ?_
    refine sw_iload_n (pc' := 2) rfl dX5_zip_1 rfl ?_
    refine sw_S (M' := MX5_isNoWalk) (d' := d - 1) (bc' := 0) (bs' := 0) (as := [_]) dX5_zip_2 w_1306 ok_X5_isNoWalk (q_isNoWalk (by omega)) (by omega) (Nat.le_of_ble_eq_true rfl) (Nat.zero_le _) (Nat.zero_le _) (fun E h' n' _ z => det_x z) (det_k ?_)
    rw [show inB (nI k) 0 5 = true from inB_k (N := 5) (by omega) (by decide +kernel)]
    show SW _ _ _ _ _ _ _ (.int 0 :: _) _ _ _
    refine sw_if_ne (pc' := 8) (tgt := 15) rfl dX5_zip_5 (by decide +kernel) (fun c5 => ?_) (fun c5 => ?_)
    · exact absurd c5 (by decide +kernel)
    · refine sw_iload_n (pc' := 9) rfl dX5_zip_8 rfl ?_
      refine sw_S (M' := MX5_isNoWalk) (d' := d - 1) (bc' := 0) (bs' := 0) (as := [_]) dX5_zip_9 w_1306 ok_X5_isNoWalk (q_isNoWalk (by omega)) (by omega) (Nat.le_of_ble_eq_true rfl) (Nat.zero_le _) (Nat.zero_le _) (fun E h' n' _ z => det_x z) (det_k ?_)
      rw [show inB b 0 5 = false from no_x (N := 5) (by decide +kernel) q2]
      show SW _ _ _ _ _ _ _ (.int 1 :: _) _ _ _
      refine sw_if_eq (pc' := 15) (tgt := 19) rfl dX5_zip_12 (by decide +kernel) (fun c12 => ?_) (fun c12 => ?_)
      · exact absurd c12 (by decide +kernel)
      · refine sw_iconst (pc' := 16) (v := 1) rfl dX5_zip_15 (by decide +kernel) ?_
        refine sw_goto (tgt := 20) dX5_zip_16 (by decide +kernel) ?_
        refine sw_iload_n (pc' := 21) rfl dX5_zip_20 rfl ?_
        refine sw_iload_n (pc' := 22) rfl dX5_zip_21 rfl ?_
        refine sw_icmp_ne (pc' := 25) (tgt := 29) rfl dX5_zip_22 (by decide +kernel) (fun c22 => ?_) (fun c22 => ?_)
        · refine sw_iconst (pc' := 30) (v := 0) rfl dX5_zip_29 (by decide +kernel) ?_
          refine sw_aload_n (pc' := 31) rfl dX5_zip_30 rfl ?_
          refine sw_iload_n (pc' := 32) rfl dX5_zip_31 rfl ?_
          refine sw_V (M' := MX5_isUnmade) (d' := d - 1) (bc' := 0) (bs' := 0) (ci := 6) (as := [_]) dX5_zip_32 w_1313 ok_X5_isUnmade (q_isUnmade_k hM (k := k) (by omega) (hI.2.2.2.2.2.2.1 k (by omega)) (by omega)) hM.ob rfl (by omega) (Nat.le_of_ble_eq_true rfl) (Nat.zero_le _) (Nat.zero_le _) (fun E h' n' _ z => det_x z) (det_k ?_)
          refine sw_if_ne (pc' := 38) (tgt := 46) rfl dX5_zip_35 (by decide +kernel) (fun c35 => ?_) (fun c35 => ?_)
          · refine sw_iconst (pc' := 47) (v := 1) rfl dX5_zip_46 (by decide +kernel) ?_
            refine sw_goto (tgt := 51) dX5_zip_47 (by decide +kernel) ?_
            refine sw_V (M' := MX5_isStopped) (d' := d - 1) (bc' := 0) (bs' := 0) (ci := 6) (as := [_, _, _]) dX5_zip_51 w_1174 ok_X5_isStopped (q_isStopped (a := true) (b := false) (c := true) hM hA) hM.ob rfl (by omega) (Nat.le_of_ble_eq_true rfl) (Nat.zero_le _) (Nat.zero_le _) (fun E h' n' _ z => rp_x z) (rp_k (fun p51 p51ρ p51τ p51M p51A p51F => ?_))
            obtain ⟨Gp51, hGp51, eGp51⟩ := p51M.out
            show SW _ _ _ _ _ _ _ (.int 1 :: _) _ _ _
            refine sw_if_eq (pc' := 57) (tgt := 60) rfl dX5_zip_54 (by decide +kernel) (fun c54 => ?_) (fun c54 => ?_)
            · exact absurd c54 (by decide +kernel)
            · refine sw_ldcS (pc' := 59) rfl dX5_zip_57 (SRm 19 rfl) (by decide +kernel) ?_
              refine sw_ret (v := some _) ⟨dX5_zip_59, _, rfl, Or.inl ⟨_, rfl⟩⟩ ?_
              rw [opZip, onWk_k hk, onWk_x q2]
              exact pt_x tc_1 p51M p51A p51F (Nat.le_refl _)
          · refine sw_aload_n (pc' := 39) rfl dX5_zip_38 rfl ?_
            refine sw_iload_n (pc' := 40) rfl dX5_zip_39 rfl ?_
            refine sw_V (M' := MX5_isUnmade) (d' := d - 1) (bc' := 0) (bs' := 0) (ci := 6) (as := [_]) dX5_zip_40 w_1313 ok_X5_isUnmade (q_isUnmade_x hM (no_x (N := 5) (by decide +kernel) q2) (by omega)) hM.ob rfl (by omega) (Nat.le_of_ble_eq_true rfl) (Nat.zero_le _) (Nat.zero_le _) (fun E h' n' _ z => det_x z) (det_k ?_)
            refine sw_if_eq (pc' := 46) (tgt := 50) rfl dX5_zip_43 (by decide +kernel) (fun c43 => ?_) (fun c43 => ?_)
            · refine sw_iconst (pc' := 51) (v := 0) rfl dX5_zip_50 (by decide +kernel) ?_
              refine sw_V (M' := MX5_isStopped) (d' := d - 1) (bc' := 0) (bs' := 0) (ci := 6) (as := [_, _, _]) dX5_zip_51 w_1174 ok_X5_isStopped (q_isStopped (a := true) (b := false) (c := false) hM hA) hM.ob rfl (by omega) (Nat.le_of_ble_eq_true rfl) (Nat.zero_le _) (Nat.zero_le _) (fun E h' n' _ z => rp_x z) (rp_k (fun p51 p51ρ p51τ p51M p51A p51F => ?_))
              obtain ⟨Gp51, hGp51, eGp51⟩ := p51M.out
              show SW _ _ _ _ _ _ _ (.int 1 :: _) _ _ _
              refine sw_if_eq (pc' := 57) (tgt := 60) rfl dX5_zip_54 (by decide +kernel) (fun c54 => ?_) (fun c54 => ?_)
              · exact absurd c54 (by decide +kernel)
              · refine sw_ldcS (pc' := 59) rfl dX5_zip_57 (SRm 19 rfl) (by decide +kernel) ?_
                refine sw_ret (v := some _) ⟨dX5_zip_59, _, rfl, Or.inl ⟨_, rfl⟩⟩ ?_
                rw [opZip, onWk_k hk, onWk_x q2]
                exact pt_x tc_1 p51M p51A p51F (Nat.le_refl _)
            · exact absurd c43 (by decide +kernel)
        · refine sw_iconst (pc' := 26) (v := 1) rfl dX5_zip_25 (by decide +kernel) ?_
          refine sw_goto (tgt := 30) dX5_zip_26 (by decide +kernel) ?_
          refine sw_aload_n (pc' := 31) rfl dX5_zip_30 rfl ?_
          refine sw_iload_n (pc' := 32) rfl dX5_zip_31 rfl ?_
          refine sw_V (M' := MX5_isUnmade) (d' := d - 1) (bc' := 0) (bs' := 0) (ci := 6) (as := [_]) dX5_zip_32 w_1313 ok_X5_isUnmade (q_isUnmade_k hM (k := k) (by omega) (hI.2.2.2.2.2.2.1 k (by omega)) (by omega)) hM.ob rfl (by omega) (Nat.le_of_ble_eq_true rfl) (Nat.zero_le _) (Nat.zero_le _) (fun E h' n' _ z => det_x z) (det_k ?_)
          refine sw_if_ne (pc' := 38) (tgt := 46) rfl dX5_zip_35 (by decide +kernel) (fun c35 => ?_) (fun c35 => ?_)
          · refine sw_iconst (pc' := 47) (v := 1) rfl dX5_zip_46 (by decide +kernel) ?_
            refine sw_goto (tgt := 51) dX5_zip_47 (by decide +kernel) ?_
            refine sw_V (M' := MX5_isStopped) (d' := d - 1) (bc' := 0) (bs' := 0) (ci := 6) (as := [_, _, _]) dX5_zip_51 w_1174 ok_X5_isStopped (q_isStopped (a := true) (b := true) (c := true) hM hA) hM.ob rfl (by omega) (Nat.le_of_ble_eq_true rfl) (Nat.zero_le _) (Nat.zero_le _) (fun E h' n' _ z => rp_x z) (rp_k (fun p51 p51ρ p51τ p51M p51A p51F => ?_))
            obtain ⟨Gp51, hGp51, eGp51⟩ := p51M.out
            show SW _ _ _ _ _ _ _ (.int 1 :: _) _ _ _
            refine sw_if_eq (pc' := 57) (tgt := 60) rfl dX5_zip_54 (by decide +kernel) (fun c54 => ?_) (fun c54 => ?_)
            · exact absurd c54 (by decide +kernel)
            · refine sw_ldcS (pc' := 59) rfl dX5_zip_57 (SRm 19 rfl) (by decide +kernel) ?_
              refine sw_ret (v := some _) ⟨dX5_zip_59, _, rfl, Or.inl ⟨_, rfl⟩⟩ ?_
              rw [opZip, onWk_k hk, onWk_x q2]
              exact pt_x tc_1 p51M p51A p51F (Nat.le_refl _)
          · refine sw_aload_n (pc' := 39) rfl dX5_zip_38 rfl ?_
            refine sw_iload_n (pc' := 40) rfl dX5_zip_39 rfl ?_
            refine sw_V (M' := MX5_isUnmade) (d' := d - 1) (bc' := 0) (bs' := 0) (ci := 6) (as := [_]) dX5_zip_40 w_1313 ok_X5_isUnmade (q_isUnmade_x hM (no_x (N := 5) (by decide +kernel) q2) (by omega)) hM.ob rfl (by omega) (Nat.le_of_ble_eq_true rfl) (Nat.zero_le _) (Nat.zero_le _) (fun E h' n' _ z => det_x z) (det_k ?_)
            refine sw_if_eq (pc' := 46) (tgt := 50) rfl dX5_zip_43 (by decide +kernel) (fun c43 => ?_) (fun c43 => ?_)
            · refine sw_iconst (pc' := 51) (v := 0) rfl dX5_zip_50 (by decide +kernel) ?_
              refine sw_V (M' := MX5_isStopped) (d' := d - 1) (bc' := 0) (bs' := 0) (ci := 6) (as := [_, _, _]) dX5_zip_51 w_1174 ok_X5_isStopped (q_isStopped (a := true) (b := true) (c := false) hM hA) hM.ob rfl (by omega) (Nat.le_of_ble_eq_true rfl) (Nat.zero_le _) (Nat.zero_le _) (fun E h' n' _ z => rp_x z) (rp_k (fun p51 p51ρ p51τ p51M p51A p51F => ?_))
              obtain ⟨Gp51, hGp51, eGp51⟩ := p51M.out
              show SW _ _ _ _ _ _ _ (.int 1 :: _) _ _ _
              refine sw_if_eq (pc' := 57) (tgt := 60) rfl dX5_zip_54 (by decide +kernel) (fun c54 => ?_) (fun c54 => ?_)
              · exact absurd c54 (by decide +kernel)
              · refine sw_ldcS (pc' := 59) rfl dX5_zip_57 (SRm 19 rfl) (by decide +kernel) ?_
                refine sw_ret (v := some _) ⟨dX5_zip_59, _, rfl, Or.inl ⟨_, rfl⟩⟩ ?_
                rw [opZip, onWk_k hk, onWk_x q2]
                exact pt_x tc_1 p51M p51A p51F (Nat.le_refl _)
            · exact absurd c43 (by decide +kernel)
  have ovj := hI.2.2.2.2.2.2.1 j hj
  rcases Classical.em (nI k = nI j) with qe | qe
  · refine sw_aload_n (pc' := 1) rfl dX5_zip_0 rfl ?_
    refine sw_iload_n (pc' := 2) rfl dX5_zip_1 rfl ?_
    refine sw_S (M' := MX5_isNoWalk) (d' := d - 1) (bc' := 0) (bs' := 0) (as := [_]) dX5_zip_2 w_1306 ok_X5_isNoWalk (q_isNoWalk (by omega)) (by omega) (Nat.le_of_ble_eq_true rfl) (Nat.zero_le _) (Nat.zero_le _) (fun E h' n' _ z => det_x z) (det_k ?_)
    rw [show inB (nI k) 0 5 = true from inB_k (N := 5) (by omega) (by decide +kernel)]
    show SW _ _ _ _ _ _ _ (.int 0 :: _) _ _ _
    refine sw_if_ne (pc' := 8) (tgt := 15) rfl dX5_zip_5 (by decide +kernel) (fun c5 => ?_) (fun c5 => ?_)
    · exact absurd c5 (by decide +kernel)
    · refine sw_iload_n (pc' := 9) rfl dX5_zip_8 rfl ?_
      refine sw_S (M' := MX5_isNoWalk) (d' := d - 1) (bc' := 0) (bs' := 0) (as := [_]) dX5_zip_9 w_1306 ok_X5_isNoWalk (q_isNoWalk (by omega)) (by omega) (Nat.le_of_ble_eq_true rfl) (Nat.zero_le _) (Nat.zero_le _) (fun E h' n' _ z => det_x z) (det_k ?_)
      rw [show inB (nI j) 0 5 = true from inB_k (N := 5) (by omega) (by decide +kernel)]
      show SW _ _ _ _ _ _ _ (.int 0 :: _) _ _ _
      refine sw_if_eq (pc' := 15) (tgt := 19) rfl dX5_zip_12 (by decide +kernel) (fun c12 => ?_) (fun c12 => ?_)
      · refine sw_iconst (pc' := 20) (v := 0) rfl dX5_zip_19 (by decide +kernel) ?_
        refine sw_iload_n (pc' := 21) rfl dX5_zip_20 rfl ?_
        refine sw_iload_n (pc' := 22) rfl dX5_zip_21 rfl ?_
        refine sw_icmp_ne (pc' := 25) (tgt := 29) rfl dX5_zip_22 (by decide +kernel) (fun c22 => ?_) (fun c22 => ?_)
        · exact absurd qe c22
        · refine sw_iconst (pc' := 26) (v := 1) rfl dX5_zip_25 (by decide +kernel) ?_
          refine sw_goto (tgt := 30) dX5_zip_26 (by decide +kernel) ?_
          refine sw_aload_n (pc' := 31) rfl dX5_zip_30 rfl ?_
          refine sw_iload_n (pc' := 32) rfl dX5_zip_31 rfl ?_
          refine sw_V (M' := MX5_isUnmade) (d' := d - 1) (bc' := 0) (bs' := 0) (ci := 6) (as := [_]) dX5_zip_32 w_1313 ok_X5_isUnmade (q_isUnmade_k hM (k := k) (by omega) (hI.2.2.2.2.2.2.1 k (by omega)) (by omega)) hM.ob rfl (by omega) (Nat.le_of_ble_eq_true rfl) (Nat.zero_le _) (Nat.zero_le _) (fun E h' n' _ z => det_x z) (det_k ?_)
          refine sw_if_ne (pc' := 38) (tgt := 46) rfl dX5_zip_35 (by decide +kernel) (fun c35 => ?_) (fun c35 => ?_)
          · refine sw_iconst (pc' := 47) (v := 1) rfl dX5_zip_46 (by decide +kernel) ?_
            refine sw_goto (tgt := 51) dX5_zip_47 (by decide +kernel) ?_
            refine sw_V (M' := MX5_isStopped) (d' := d - 1) (bc' := 0) (bs' := 0) (ci := 6) (as := [_, _, _]) dX5_zip_51 w_1174 ok_X5_isStopped (q_isStopped (a := false) (b := true) (c := true) hM hA) hM.ob rfl (by omega) (Nat.le_of_ble_eq_true rfl) (Nat.zero_le _) (Nat.zero_le _) (fun E h' n' _ z => rp_x z) (rp_k (fun p51 p51ρ p51τ p51M p51A p51F => ?_))
            obtain ⟨Gp51, hGp51, eGp51⟩ := p51M.out
            show SW _ _ _ _ _ _ _ (.int 1 :: _) _ _ _
            refine sw_if_eq (pc' := 57) (tgt := 60) rfl dX5_zip_54 (by decide +kernel) (fun c54 => ?_) (fun c54 => ?_)
            · exact absurd c54 (by decide +kernel)
            · refine sw_ldcS (pc' := 59) rfl dX5_zip_57 (SRm 19 rfl) (by decide +kernel) ?_
              refine sw_ret (v := some _) ⟨dX5_zip_59, _, rfl, Or.inl ⟨_, rfl⟩⟩ ?_
              rw [opZip, onWk_k hk, onWk_k hj, if_pos qe]
              exact pt_x (tc_2 sAI) p51M p51A p51F (Nat.le_refl _)
          · refine sw_aload_n (pc' := 39) rfl dX5_zip_38 rfl ?_
            refine sw_iload_n (pc' := 40) rfl dX5_zip_39 rfl ?_
            refine sw_V (M' := MX5_isUnmade) (d' := d - 1) (bc' := 0) (bs' := 0) (ci := 6) (as := [_]) dX5_zip_40 w_1313 ok_X5_isUnmade (q_isUnmade_k hM (k := j) (by omega) (hI.2.2.2.2.2.2.1 j (by omega)) (by omega)) hM.ob rfl (by omega) (Nat.le_of_ble_eq_true rfl) (Nat.zero_le _) (Nat.zero_le _) (fun E h' n' _ z => det_x z) (det_k ?_)
            refine sw_if_eq (pc' := 46) (tgt := 50) rfl dX5_zip_43 (by decide +kernel) (fun c43 => ?_) (fun c43 => ?_)
            · refine sw_iconst (pc' := 51) (v := 0) rfl dX5_zip_50 (by decide +kernel) ?_
              refine sw_V (M' := MX5_isStopped) (d' := d - 1) (bc' := 0) (bs' := 0) (ci := 6) (as := [_, _, _]) dX5_zip_51 w_1174 ok_X5_isStopped (q_isStopped (a := false) (b := true) (c := false) hM hA) hM.ob rfl (by omega) (Nat.le_of_ble_eq_true rfl) (Nat.zero_le _) (Nat.zero_le _) (fun E h' n' _ z => rp_x z) (rp_k (fun p51 p51ρ p51τ p51M p51A p51F => ?_))
              obtain ⟨Gp51, hGp51, eGp51⟩ := p51M.out
              show SW _ _ _ _ _ _ _ (.int 1 :: _) _ _ _
              refine sw_if_eq (pc' := 57) (tgt := 60) rfl dX5_zip_54 (by decide +kernel) (fun c54 => ?_) (fun c54 => ?_)
              · exact absurd c54 (by decide +kernel)
              · refine sw_ldcS (pc' := 59) rfl dX5_zip_57 (SRm 19 rfl) (by decide +kernel) ?_
                refine sw_ret (v := some _) ⟨dX5_zip_59, _, rfl, Or.inl ⟨_, rfl⟩⟩ ?_
                rw [opZip, onWk_k hk, onWk_k hj, if_pos qe]
                exact pt_x (tc_2 sAI) p51M p51A p51F (Nat.le_refl _)
            · refine sw_iconst (pc' := 47) (v := 1) rfl dX5_zip_46 (by decide +kernel) ?_
              refine sw_goto (tgt := 51) dX5_zip_47 (by decide +kernel) ?_
              refine sw_V (M' := MX5_isStopped) (d' := d - 1) (bc' := 0) (bs' := 0) (ci := 6) (as := [_, _, _]) dX5_zip_51 w_1174 ok_X5_isStopped (q_isStopped (a := false) (b := true) (c := true) hM hA) hM.ob rfl (by omega) (Nat.le_of_ble_eq_true rfl) (Nat.zero_le _) (Nat.zero_le _) (fun E h' n' _ z => rp_x z) (rp_k (fun p51 p51ρ p51τ p51M p51A p51F => ?_))
              obtain ⟨Gp51, hGp51, eGp51⟩ := p51M.out
              show SW _ _ _ _ _ _ _ (.int 1 :: _) _ _ _
              refine sw_if_eq (pc' := 57) (tgt := 60) rfl dX5_zip_54 (by decide +kernel) (fun c54 => ?_) (fun c54 => ?_)
              · exact absurd c54 (by decide +kernel)
              · refine sw_ldcS (pc' := 59) rfl dX5_zip_57 (SRm 19 rfl) (by decide +kernel) ?_
                refine sw_ret (v := some _) ⟨dX5_zip_59, _, rfl, Or.inl ⟨_, rfl⟩⟩ ?_
                rw [opZip, onWk_k hk, onWk_k hj, if_pos qe]
                exact pt_x (tc_2 sAI) p51M p51A p51F (Nat.le_refl _)
      · exact absurd c12 (by decide +kernel)
  rcases Classical.em ((σ.2.2.2.2.1 k).1 = false) with qk | qk
  · refine sw_aload_n (pc' := 1) rfl dX5_zip_0 rfl ?_
    refine sw_iload_n (pc' := 2) rfl dX5_zip_1 rfl ?_
    refine sw_S (M' := MX5_isNoWalk) (d' := d - 1) (bc' := 0) (bs' := 0) (as := [_]) dX5_zip_2 w_1306 ok_X5_isNoWalk (q_isNoWalk (by omega)) (by omega) (Nat.le_of_ble_eq_true rfl) (Nat.zero_le _) (Nat.zero_le _) (fun E h' n' _ z => det_x z) (det_k ?_)
    rw [show inB (nI k) 0 5 = true from inB_k (N := 5) (by omega) (by decide +kernel)]
    show SW _ _ _ _ _ _ _ (.int 0 :: _) _ _ _
    refine sw_if_ne (pc' := 8) (tgt := 15) rfl dX5_zip_5 (by decide +kernel) (fun c5 => ?_) (fun c5 => ?_)
    · exact absurd c5 (by decide +kernel)
    · refine sw_iload_n (pc' := 9) rfl dX5_zip_8 rfl ?_
      refine sw_S (M' := MX5_isNoWalk) (d' := d - 1) (bc' := 0) (bs' := 0) (as := [_]) dX5_zip_9 w_1306 ok_X5_isNoWalk (q_isNoWalk (by omega)) (by omega) (Nat.le_of_ble_eq_true rfl) (Nat.zero_le _) (Nat.zero_le _) (fun E h' n' _ z => det_x z) (det_k ?_)
      rw [show inB (nI j) 0 5 = true from inB_k (N := 5) (by omega) (by decide +kernel)]
      show SW _ _ _ _ _ _ _ (.int 0 :: _) _ _ _
      refine sw_if_eq (pc' := 15) (tgt := 19) rfl dX5_zip_12 (by decide +kernel) (fun c12 => ?_) (fun c12 => ?_)
      · refine sw_iconst (pc' := 20) (v := 0) rfl dX5_zip_19 (by decide +kernel) ?_
        refine sw_iload_n (pc' := 21) rfl dX5_zip_20 rfl ?_
        refine sw_iload_n (pc' := 22) rfl dX5_zip_21 rfl ?_
        refine sw_icmp_ne (pc' := 25) (tgt := 29) rfl dX5_zip_22 (by decide +kernel) (fun c22 => ?_) (fun c22 => ?_)
        · refine sw_iconst (pc' := 30) (v := 0) rfl dX5_zip_29 (by decide +kernel) ?_
          refine sw_aload_n (pc' := 31) rfl dX5_zip_30 rfl ?_
          refine sw_iload_n (pc' := 32) rfl dX5_zip_31 rfl ?_
          refine sw_V (M' := MX5_isUnmade) (d' := d - 1) (bc' := 0) (bs' := 0) (ci := 6) (as := [_]) dX5_zip_32 w_1313 ok_X5_isUnmade (q_isUnmade_k hM (k := k) (by omega) (hI.2.2.2.2.2.2.1 k (by omega)) (by omega)) hM.ob rfl (by omega) (Nat.le_of_ble_eq_true rfl) (Nat.zero_le _) (Nat.zero_le _) (fun E h' n' _ z => det_x z) (det_k ?_)
          rw [show (σ.2.2.2.2.1 k).1 = false from qk]
          show SW _ _ _ _ _ _ _ (.int 1 :: _) _ _ _
          refine sw_if_ne (pc' := 38) (tgt := 46) rfl dX5_zip_35 (by decide +kernel) (fun c35 => ?_) (fun c35 => ?_)
          · refine sw_iconst (pc' := 47) (v := 1) rfl dX5_zip_46 (by decide +kernel) ?_
            refine sw_goto (tgt := 51) dX5_zip_47 (by decide +kernel) ?_
            refine sw_V (M' := MX5_isStopped) (d' := d - 1) (bc' := 0) (bs' := 0) (ci := 6) (as := [_, _, _]) dX5_zip_51 w_1174 ok_X5_isStopped (q_isStopped (a := false) (b := false) (c := true) hM hA) hM.ob rfl (by omega) (Nat.le_of_ble_eq_true rfl) (Nat.zero_le _) (Nat.zero_le _) (fun E h' n' _ z => rp_x z) (rp_k (fun p51 p51ρ p51τ p51M p51A p51F => ?_))
            obtain ⟨Gp51, hGp51, eGp51⟩ := p51M.out
            show SW _ _ _ _ _ _ _ (.int 1 :: _) _ _ _
            refine sw_if_eq (pc' := 57) (tgt := 60) rfl dX5_zip_54 (by decide +kernel) (fun c54 => ?_) (fun c54 => ?_)
            · exact absurd c54 (by decide +kernel)
            · refine sw_ldcS (pc' := 59) rfl dX5_zip_57 (SRm 19 rfl) (by decide +kernel) ?_
              refine sw_ret (v := some _) ⟨dX5_zip_59, _, rfl, Or.inl ⟨_, rfl⟩⟩ ?_
              rw [opZip, onWk_k hk, onWk_k hj, if_neg qe, if_pos qk]
              exact pt_x (tc_3 sSI sSA) p51M p51A p51F (Nat.le_refl _)
          · exact absurd c35 (by decide +kernel)
        · exact absurd c22 qe
      · exact absurd c12 (by decide +kernel)
  rcases Classical.em ((σ.2.2.2.2.1 j).1 = false) with qj | qj
  · refine sw_aload_n (pc' := 1) rfl dX5_zip_0 rfl ?_
    refine sw_iload_n (pc' := 2) rfl dX5_zip_1 rfl ?_
    refine sw_S (M' := MX5_isNoWalk) (d' := d - 1) (bc' := 0) (bs' := 0) (as := [_]) dX5_zip_2 w_1306 ok_X5_isNoWalk (q_isNoWalk (by omega)) (by omega) (Nat.le_of_ble_eq_true rfl) (Nat.zero_le _) (Nat.zero_le _) (fun E h' n' _ z => det_x z) (det_k ?_)
    rw [show inB (nI k) 0 5 = true from inB_k (N := 5) (by omega) (by decide +kernel)]
    show SW _ _ _ _ _ _ _ (.int 0 :: _) _ _ _
    refine sw_if_ne (pc' := 8) (tgt := 15) rfl dX5_zip_5 (by decide +kernel) (fun c5 => ?_) (fun c5 => ?_)
    · exact absurd c5 (by decide +kernel)
    · refine sw_iload_n (pc' := 9) rfl dX5_zip_8 rfl ?_
      refine sw_S (M' := MX5_isNoWalk) (d' := d - 1) (bc' := 0) (bs' := 0) (as := [_]) dX5_zip_9 w_1306 ok_X5_isNoWalk (q_isNoWalk (by omega)) (by omega) (Nat.le_of_ble_eq_true rfl) (Nat.zero_le _) (Nat.zero_le _) (fun E h' n' _ z => det_x z) (det_k ?_)
      rw [show inB (nI j) 0 5 = true from inB_k (N := 5) (by omega) (by decide +kernel)]
      show SW _ _ _ _ _ _ _ (.int 0 :: _) _ _ _
      refine sw_if_eq (pc' := 15) (tgt := 19) rfl dX5_zip_12 (by decide +kernel) (fun c12 => ?_) (fun c12 => ?_)
      · refine sw_iconst (pc' := 20) (v := 0) rfl dX5_zip_19 (by decide +kernel) ?_
        refine sw_iload_n (pc' := 21) rfl dX5_zip_20 rfl ?_
        refine sw_iload_n (pc' := 22) rfl dX5_zip_21 rfl ?_
        refine sw_icmp_ne (pc' := 25) (tgt := 29) rfl dX5_zip_22 (by decide +kernel) (fun c22 => ?_) (fun c22 => ?_)
        · refine sw_iconst (pc' := 30) (v := 0) rfl dX5_zip_29 (by decide +kernel) ?_
          refine sw_aload_n (pc' := 31) rfl dX5_zip_30 rfl ?_
          refine sw_iload_n (pc' := 32) rfl dX5_zip_31 rfl ?_
          refine sw_V (M' := MX5_isUnmade) (d' := d - 1) (bc' := 0) (bs' := 0) (ci := 6) (as := [_]) dX5_zip_32 w_1313 ok_X5_isUnmade (q_isUnmade_k hM (k := k) (by omega) (hI.2.2.2.2.2.2.1 k (by omega)) (by omega)) hM.ob rfl (by omega) (Nat.le_of_ble_eq_true rfl) (Nat.zero_le _) (Nat.zero_le _) (fun E h' n' _ z => det_x z) (det_k ?_)
          rw [show (σ.2.2.2.2.1 k).1 = true from (mkT qk)]
          show SW _ _ _ _ _ _ _ (.int 0 :: _) _ _ _
          refine sw_if_ne (pc' := 38) (tgt := 46) rfl dX5_zip_35 (by decide +kernel) (fun c35 => ?_) (fun c35 => ?_)
          · exact absurd c35 (by decide +kernel)
          · refine sw_aload_n (pc' := 39) rfl dX5_zip_38 rfl ?_
            refine sw_iload_n (pc' := 40) rfl dX5_zip_39 rfl ?_
            refine sw_V (M' := MX5_isUnmade) (d' := d - 1) (bc' := 0) (bs' := 0) (ci := 6) (as := [_]) dX5_zip_40 w_1313 ok_X5_isUnmade (q_isUnmade_k hM (k := j) (by omega) (hI.2.2.2.2.2.2.1 j (by omega)) (by omega)) hM.ob rfl (by omega) (Nat.le_of_ble_eq_true rfl) (Nat.zero_le _) (Nat.zero_le _) (fun E h' n' _ z => det_x z) (det_k ?_)
            rw [show (σ.2.2.2.2.1 j).1 = false from qj]
            show SW _ _ _ _ _ _ _ (.int 1 :: _) _ _ _
            refine sw_if_eq (pc' := 46) (tgt := 50) rfl dX5_zip_43 (by decide +kernel) (fun c43 => ?_) (fun c43 => ?_)
            · exact absurd c43 (by decide +kernel)
            · refine sw_iconst (pc' := 47) (v := 1) rfl dX5_zip_46 (by decide +kernel) ?_
              refine sw_goto (tgt := 51) dX5_zip_47 (by decide +kernel) ?_
              refine sw_V (M' := MX5_isStopped) (d' := d - 1) (bc' := 0) (bs' := 0) (ci := 6) (as := [_, _, _]) dX5_zip_51 w_1174 ok_X5_isStopped (q_isStopped (a := false) (b := false) (c := true) hM hA) hM.ob rfl (by omega) (Nat.le_of_ble_eq_true rfl) (Nat.zero_le _) (Nat.zero_le _) (fun E h' n' _ z => rp_x z) (rp_k (fun p51 p51ρ p51τ p51M p51A p51F => ?_))
              obtain ⟨Gp51, hGp51, eGp51⟩ := p51M.out
              show SW _ _ _ _ _ _ _ (.int 1 :: _) _ _ _
              refine sw_if_eq (pc' := 57) (tgt := 60) rfl dX5_zip_54 (by decide +kernel) (fun c54 => ?_) (fun c54 => ?_)
              · exact absurd c54 (by decide +kernel)
              · refine sw_ldcS (pc' := 59) rfl dX5_zip_57 (SRm 19 rfl) (by decide +kernel) ?_
                refine sw_ret (v := some _) ⟨dX5_zip_59, _, rfl, Or.inl ⟨_, rfl⟩⟩ ?_
                rw [opZip, onWk_k hk, onWk_k hj, if_neg qe, if_neg qk, if_pos qj]
                exact pt_x (tc_3 sSI sSA) p51M p51A p51F (Nat.le_refl _)
        · exact absurd c22 qe
      · exact absurd c12 (by decide +kernel)
  refine sw_aload_n (pc' := 1) rfl dX5_zip_0 rfl ?_
  refine sw_iload_n (pc' := 2) rfl dX5_zip_1 rfl ?_
  refine sw_S (M' := MX5_isNoWalk) (d' := d - 1) (bc' := 0) (bs' := 0) (as := [_]) dX5_zip_2 w_1306 ok_X5_isNoWalk (q_isNoWalk (by omega)) (by omega) (Nat.le_of_ble_eq_true rfl) (Nat.zero_le _) (Nat.zero_le _) (fun E h' n' _ z => det_x z) (det_k ?_)
  rw [show inB (nI k) 0 5 = true from inB_k (N := 5) (by omega) (by decide +kernel)]
  show SW _ _ _ _ _ _ _ (.int 0 :: _) _ _ _
  refine sw_if_ne (pc' := 8) (tgt := 15) rfl dX5_zip_5 (by decide +kernel) (fun c5 => ?_) (fun c5 => ?_)
  · exact absurd c5 (by decide +kernel)
  · refine sw_iload_n (pc' := 9) rfl dX5_zip_8 rfl ?_
    refine sw_S (M' := MX5_isNoWalk) (d' := d - 1) (bc' := 0) (bs' := 0) (as := [_]) dX5_zip_9 w_1306 ok_X5_isNoWalk (q_isNoWalk (by omega)) (by omega) (Nat.le_of_ble_eq_true rfl) (Nat.zero_le _) (Nat.zero_le _) (fun E h' n' _ z => det_x z) (det_k ?_)
    rw [show inB (nI j) 0 5 = true from inB_k (N := 5) (by omega) (by decide +kernel)]
    show SW _ _ _ _ _ _ _ (.int 0 :: _) _ _ _
    refine sw_if_eq (pc' := 15) (tgt := 19) rfl dX5_zip_12 (by decide +kernel) (fun c12 => ?_) (fun c12 => ?_)
    · refine sw_iconst (pc' := 20) (v := 0) rfl dX5_zip_19 (by decide +kernel) ?_
      refine sw_iload_n (pc' := 21) rfl dX5_zip_20 rfl ?_
      refine sw_iload_n (pc' := 22) rfl dX5_zip_21 rfl ?_
      refine sw_icmp_ne (pc' := 25) (tgt := 29) rfl dX5_zip_22 (by decide +kernel) (fun c22 => ?_) (fun c22 => ?_)
      · refine sw_iconst (pc' := 30) (v := 0) rfl dX5_zip_29 (by decide +kernel) ?_
        refine sw_aload_n (pc' := 31) rfl dX5_zip_30 rfl ?_
        refine sw_iload_n (pc' := 32) rfl dX5_zip_31 rfl ?_
        refine sw_V (M' := MX5_isUnmade) (d' := d - 1) (bc' := 0) (bs' := 0) (ci := 6) (as := [_]) dX5_zip_32 w_1313 ok_X5_isUnmade (q_isUnmade_k hM (k := k) (by omega) (hI.2.2.2.2.2.2.1 k (by omega)) (by omega)) hM.ob rfl (by omega) (Nat.le_of_ble_eq_true rfl) (Nat.zero_le _) (Nat.zero_le _) (fun E h' n' _ z => det_x z) (det_k ?_)
        rw [show (σ.2.2.2.2.1 k).1 = true from (mkT qk)]
        show SW _ _ _ _ _ _ _ (.int 0 :: _) _ _ _
        refine sw_if_ne (pc' := 38) (tgt := 46) rfl dX5_zip_35 (by decide +kernel) (fun c35 => ?_) (fun c35 => ?_)
        · exact absurd c35 (by decide +kernel)
        · refine sw_aload_n (pc' := 39) rfl dX5_zip_38 rfl ?_
          refine sw_iload_n (pc' := 40) rfl dX5_zip_39 rfl ?_
          refine sw_V (M' := MX5_isUnmade) (d' := d - 1) (bc' := 0) (bs' := 0) (ci := 6) (as := [_]) dX5_zip_40 w_1313 ok_X5_isUnmade (q_isUnmade_k hM (k := j) (by omega) (hI.2.2.2.2.2.2.1 j (by omega)) (by omega)) hM.ob rfl (by omega) (Nat.le_of_ble_eq_true rfl) (Nat.zero_le _) (Nat.zero_le _) (fun E h' n' _ z => det_x z) (det_k ?_)
          rw [show (σ.2.2.2.2.1 j).1 = true from (mkT qj)]
          show SW _ _ _ _ _ _ _ (.int 0 :: _) _ _ _
          refine sw_if_eq (pc' := 46) (tgt := 50) rfl dX5_zip_43 (by decide +kernel) (fun c43 => ?_) (fun c43 => ?_)
          · refine sw_iconst (pc' := 51) (v := 0) rfl dX5_zip_50 (by decide +kernel) ?_
            refine sw_V (M' := MX5_isStopped) (d' := d - 1) (bc' := 0) (bs' := 0) (ci := 6) (as := [_, _, _]) dX5_zip_51 w_1174 ok_X5_isStopped (q_isStopped (a := false) (b := false) (c := false) hM hA) hM.ob rfl (by omega) (Nat.le_of_ble_eq_true rfl) (Nat.zero_le _) (Nat.zero_le _) (fun E h' n' _ z => rp_x z) (rp_k (fun p51 p51ρ p51τ p51M p51A p51F => ?_))
            obtain ⟨Gp51, hGp51, eGp51⟩ := p51M.out
            show SW _ _ _ _ _ _ _ (.int 0 :: _) _ _ _
            refine sw_if_eq (pc' := 57) (tgt := 60) rfl dX5_zip_54 (by decide +kernel) (fun c54 => ?_) (fun c54 => ?_)
            · refine sw_aload_n (pc' := 61) rfl dX5_zip_60 rfl ?_
              refine sw_iload_n (pc' := 62) rfl dX5_zip_61 rfl ?_
              refine sw_V (M' := MX5_isStale) (d' := d - 1) (bc' := 0) (bs' := 0) (ci := 6) (as := [_]) dX5_zip_62 w_1317 ok_X5_isStale (q_isStale p51M (k := k) (by omega) (mkT qk) (hI.2.2.2.2.2.2.1 k (by omega))) p51M.ob rfl (by omega) (Nat.le_of_ble_eq_true rfl) (Nat.zero_le _) (Nat.zero_le _) (fun E h' n' _ z => det_x z) (det_k ?_)
              refine sw_if_ne (pc' := 68) (tgt := 76) rfl dX5_zip_65 (by decide +kernel) (fun c65 => ?_) (fun c65 => ?_)
              · refine sw_aload_n (pc' := 77) rfl dX5_zip_76 rfl ?_
                refine sw_V (M' := MX5_noText) (d' := d - 1) (bc' := 0) (bs' := 0) (ci := 6) (as := []) dX5_zip_77 w_1342 ok_X5_noText (q_noText p51M p51A) p51M.ob rfl (by omega) (Nat.le_of_ble_eq_true rfl) (Nat.zero_le _) (Nat.zero_le _) (fun E h' n' _ z => rp_x z) (rp_k (fun p77 p77ρ p77τ p77M p77A p77F => ?_))
                obtain ⟨Gp77, hGp77, eGp77⟩ := p77M.out
                refine sw_ret (v := some _) ⟨dX5_zip_80, _, rfl, Or.inl ⟨_, rfl⟩⟩ ?_
                rw [opZip, onWk_k hk, onWk_k hj, if_neg qe, if_neg qk, if_neg qj, if_pos (Or.inl (bI_1 c65)), tcZ_f hk hj (Or.inl (bI_1 c65))]
                exact pt_k p77M p77A (p51F.tr p77F (Nat.le_refl _)) (Nat.le_refl _) (by omega) ((hT.fr (fun i hi => (p51F.tr p77F (Nat.le_refl _)) i (by omega) (by omega))).2.2.2.2.2.2.n (by omega))
              · refine sw_aload_n (pc' := 69) rfl dX5_zip_68 rfl ?_
                refine sw_iload_n (pc' := 70) rfl dX5_zip_69 rfl ?_
                refine sw_V (M' := MX5_isStale) (d' := d - 1) (bc' := 0) (bs' := 0) (ci := 6) (as := [_]) dX5_zip_70 w_1317 ok_X5_isStale (q_isStale p51M (k := j) (by omega) (mkT qj) (hI.2.2.2.2.2.2.1 j (by omega))) p51M.ob rfl (by omega) (Nat.le_of_ble_eq_true rfl) (Nat.zero_le _) (Nat.zero_le _) (fun E h' n' _ z => det_x z) (det_k ?_)
                refine sw_if_eq (pc' := 76) (tgt := 81) rfl dX5_zip_73 (by decide +kernel) (fun c73 => ?_) (fun c73 => ?_)
                · refine sw_ldcS (pc' := 83) rfl dX5_zip_81 (SRm 19 rfl) (by decide +kernel) ?_
                  refine sw_astore_n (pc' := 84) (lv' := [(3, _), (0, _), (1, _), (2, _)]) rfl dX5_zip_83 (by decide +kernel) rfl ?_
                  rw [opZip, onWk_k hk, onWk_k hj, if_neg qe, if_neg qk, if_neg qj, if_neg (fun g => g.elim (fun g => Bool.noConfusion ((bI_0 c65).symm.trans g)) (fun g => Bool.noConfusion ((bI_0 c73).symm.trans g))), tcZ_t hk hj (bI_0 c65) (bI_0 c73)]
                  have z12 : zc 12 = 3252 := rfl
                  have h12 : ∀ A : Nat, wAh σ k = nI A → σ.2.1 (wO σ k) ≤ A + 12 := fun A _ => by have := hI.1 _ ovk; omega
                  refine SW.post (SW.pick [0, 1, 2, 3] rfl (ql_zip (N := N) (hT.fr (fun i hi => p51F i (by omega) (by omega))) hN hk hj (fun e => qe (by rw [e])) hn (by omega) 12 0 _ _ n 48 0 p51 σ [] rfl ⟨_, _, p51M, p51A⟩ hV (mkT qk) (mkT qj) (bI_0 c65) (bI_0 c73) h12 (Nat.le_refl _) ((hT.fr (fun i hi => p51F i (by omega) (by omega))).2.2.1.n (by omega)) (by omega) FrM.rf (by omega) (by omega))) (fun r h' n' z => ⟨z.1, z.2.1, z.2.2.1, p51F.tr z.2.2.2 (Nat.le_refl _)⟩)
                · refine sw_aload_n (pc' := 77) rfl dX5_zip_76 rfl ?_
                  refine sw_V (M' := MX5_noText) (d' := d - 1) (bc' := 0) (bs' := 0) (ci := 6) (as := []) dX5_zip_77 w_1342 ok_X5_noText (q_noText p51M p51A) p51M.ob rfl (by omega) (Nat.le_of_ble_eq_true rfl) (Nat.zero_le _) (Nat.zero_le _) (fun E h' n' _ z => rp_x z) (rp_k (fun p77 p77ρ p77τ p77M p77A p77F => ?_))
                  obtain ⟨Gp77, hGp77, eGp77⟩ := p77M.out
                  refine sw_ret (v := some _) ⟨dX5_zip_80, _, rfl, Or.inl ⟨_, rfl⟩⟩ ?_
                  rw [opZip, onWk_k hk, onWk_k hj, if_neg qe, if_neg qk, if_neg qj, if_pos (Or.inr (bI_1 c73)), tcZ_f hk hj (Or.inr (bI_1 c73))]
                  exact pt_k p77M p77A (p51F.tr p77F (Nat.le_refl _)) (Nat.le_refl _) (by omega) ((hT.fr (fun i hi => (p51F.tr p77F (Nat.le_refl _)) i (by omega) (by omega))).2.2.2.2.2.2.n (by omega))
            · exact absurd c54 (by decide +kernel)
          · exact absurd c43 (by decide +kernel)
      · exact absurd c22 qe
    · exact absurd c12 (by decide +kernel)
