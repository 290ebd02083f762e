/-! the model: pair, ofWalk, house, putAll -/
/-- fewer locals, in any order -/
theorem SW.sub {SR : SRT} {M : MI} {d bc bs pc n : Nat} {lv lv' : List (Nat × Value)} {st : List Value} {h : AH} {Post : ARes → AH → Nat → Prop} (k : SW SR M d bc bs pc lv' st h n Post) (hs : ∀ q ∈ lv', q ∈ lv) : SW SR M d bc bs pc lv st h n Post := by
  intro G p l e R s m args below meth c A ad0 n0 Q hc hr he H locs cells slots ls ad hm hl hx hbc hbs
  refine k G p l e R s m args below meth c A ad0 n0 Q hc hr he H locs cells slots ls ad hm ⟨⟨hl.1.1, hl.1.2.1, fun q hq => ?_⟩, fun q hq => hl.2.1 q (hs q hq), hl.2.2⟩ hx hbc hbs
  obtain ⟨z, hz, rfl⟩ := List.mem_map.mp hq
  exact hl.1.2.2 _ (List.mem_map.mpr ⟨z, hs z hz, rfl⟩)
theorem SW.pick {SR : SRT} {M : MI} {d bc bs pc n : Nat} {lv lv' : List (Nat × Value)} {st : List Value} {h : AH} {Post : ARes → AH → Nat → Prop} (ks : List Nat) (hl : lv_pick lv ks = lv') (k : SW SR M d bc bs pc lv' st h n Post) : SW SR M d bc bs pc lv st h n Post := SW.sub k (fun q hq => by
  subst hl
  obtain ⟨i, -, hi⟩ := List.mem_filterMap.mp hq
  exact List.mem_of_getElem? hi)
theorem owV_0 {σ : CS} {k : Nat} (h : (σ.2.2.2.2.1 k).1 = false) {x : Int32} : owV σ k x = -1 := if_pos h
theorem owV_1 {σ : CS} {k X : Nat} (h : (σ.2.2.2.2.1 k).1 = true) (hX : X ≤ 3) {f : Nat → Int32} : up (up (up (up f 0 (nI (wO σ k))) 1 (σ.2.2.2.2.1 k).2.2.1) 2 (σ.2.2.2.2.1 k).2.2.2.1) 3 (bI (wSt σ k)) X = owV σ k (nI X) := by
  unfold owV
  rw [if_neg (by rw [h]; decide)]
  match X, hX with
  | 0, _ => rfl
  | 1, _ => rfl
  | 2, _ => rfl
  | 3, _ => rfl
theorem opOfWalk_k {σ : CS} {k X : Nat} (hX : X ≤ 3) : (if (σ.2.2.2.2.1 k).1 = false then (rI (-1), σ) else (rI (if nI X = 0 then nI (wO σ k) else if nI X = 1 then (σ.2.2.2.2.1 k).2.2.1 else if nI X = 2 then (σ.2.2.2.2.1 k).2.2.2.1 else bI (wSt σ k)), σ)) = (rI (owV σ k (nI X)), σ) := by
  unfold owV
  split <;> rfl
theorem hoV_k {σ : CS} {X : Nat} (hX : X ≤ 5) {f : Nat → Int32} : up (up (up (up (up (up f 0 (cnT σ)) 1 (cnN σ)) 2 (cnW σ)) 3 (cnS σ)) 4 σ.2.2.2.2.2.1) 5 σ.2.2.2.2.2.2 X = hoV σ (nI X) := by
  unfold hoV
  match X, hX with
  | 0, _ => rfl
  | 1, _ => rfl
  | 2, _ => rfl
  | 3, _ => rfl
  | 4, _ => rfl
  | 5, _ => rfl
theorem opHouse_k {σ : CS} {X : Nat} (hX : X ≤ 5) : opHouse σ (nI X) = (rI (hoV σ (nI X)), σ) := by
  match X, hX with
  | 0, _ => rfl
  | 1, _ => rfl
  | 2, _ => rfl
  | 3, _ => rfl
  | 4, _ => rfl
  | 5, _ => rfl
theorem opHouse_x {σ : CS} {x : Int32} (q : x < 0 ∨ nI 5 < x) : opHouse σ x = (xA, σ) := by
  have g : ∀ k : Nat, k ≤ 5 → ¬ x = nI k := fun k hk e => nin (N := 5) (by decide +kernel) hk (e ▸ q)
  unfold opHouse
  rw [if_neg (show ¬ x = 0 from g 0 (by decide +kernel)), if_neg (show ¬ x = 1 from g 1 (by decide +kernel)), if_neg (show ¬ x = 2 from g 2 (by decide +kernel)), if_neg (show ¬ x = 3 from g 3 (by decide +kernel)), if_neg (show ¬ x = 4 from g 4 (by decide +kernel)), if_neg (show ¬ x = 5 from g 5 (by decide +kernel))]
def wrB (g : Nat → Int32) : Nat → Nat → Bool
  | _, 0 => false
  | j, m + 1 => !inB (g j) (-1) 100 || wrB g (j + 1) m
theorem wr4 {a b c e : Int32} : wrB (fun i => o4 (nI i) a b c e) 0 4 = (!inB a (-1) 100 || (!inB b (-1) 100 || (!inB c (-1) 100 || (!inB e (-1) 100 || false)))) := rfl
theorem inB_m {x : Int32} : (!inB x (-1) 100) = decide (x < -1 ∨ 100 < x) := by
  by_cases q : x < -1 ∨ 100 < x
  · rw [inB_x q, decide_eq_true q]; rfl
  · rw [inB_n q, decide_eq_false q]; rfl
theorem pa_t {α : Type} {a b c e : Int32} {Z X : α} (h : wrB (fun i => o4 (nI i) a b c e) 0 4 = true) : (if a < -1 ∨ 100 < a then Z else if b < -1 ∨ 100 < b then Z else if c < -1 ∨ 100 < c then Z else if e < -1 ∨ 100 < e then Z else X) = Z := by
  rw [wr4, inB_m, inB_m, inB_m, inB_m] at h
  by_cases q1 : a < -1 ∨ 100 < a
  · rw [if_pos q1]
  by_cases q2 : b < -1 ∨ 100 < b
  · rw [if_neg q1, if_pos q2]
  by_cases q3 : c < -1 ∨ 100 < c
  · rw [if_neg q1, if_neg q2, if_pos q3]
  by_cases q4 : e < -1 ∨ 100 < e
  · rw [if_neg q1, if_neg q2, if_neg q3, if_pos q4]
  · rw [decide_eq_false q1, decide_eq_false q2, decide_eq_false q3, decide_eq_false q4] at h
    cases h
theorem pa_f {α : Type} {a b c e : Int32} {Z X : α} (h : wrB (fun i => o4 (nI i) a b c e) 0 4 = false) : (if a < -1 ∨ 100 < a then Z else if b < -1 ∨ 100 < b then Z else if c < -1 ∨ 100 < c then Z else if e < -1 ∨ 100 < e then Z else X) = X := by
  rw [wr4, inB_m, inB_m, inB_m, inB_m] at h
  by_cases q1 : a < -1 ∨ 100 < a
  · rw [decide_eq_true q1] at h; cases h
  by_cases q2 : b < -1 ∨ 100 < b
  · rw [decide_eq_true q2, Bool.true_or, Bool.or_true] at h; cases h
  by_cases q3 : c < -1 ∨ 100 < c
  · rw [decide_eq_true q3, Bool.true_or, Bool.or_true, Bool.or_true] at h; cases h
  by_cases q4 : e < -1 ∨ 100 < e
  · rw [decide_eq_true q4, Bool.true_or, Bool.or_true, Bool.or_true, Bool.or_true] at h; cases h
  · rw [if_neg q1, if_neg q2, if_neg q3, if_neg q4]
theorem o4_up {a b c e : Int32} {f : Nat → Int32} : ∀ i, i < 4 → up (up (up (up f 0 a) 1 b) 2 c) 3 e i = o4 (nI i) a b c e := by
  intro i hi
  match i, hi with
  | 0, _ => rfl
  | 1, _ => rfl
  | 2, _ => rfl
  | 3, _ => rfl
theorem prR_e {σ : CS} {x : Int32} {m : Nat} (h1 : m ≤ σ.2.1 6) (h2 : ∀ i, i < m → σ.1 6 i < x) (h3 : ∀ i, m ≤ i → i < σ.2.1 6 → ¬ σ.1 6 i < x) : prR σ x = m := rpN_eq (Nat.zero_le _) (by omega) (fun i _ h => h2 i h) (fun i h1 h2 => h3 i h1 (by omega))
theorem la2_o {σ : CS} {k j p : Nat} {x : Int32} (h : j ≠ k) : (la2 σ k p x).2.1 j = σ.2.1 j := up_n h
theorem ql_pair {h : AH} {d bc bs n : Nat} {ρ : Nat → Nat → Int32} {τ : Nat → Int32} {σ : CS} {th : Int32} {x y : Int32} (hM : MM h ρ τ σ th) (hA : AG ρ τ σ) (hs : srt (σ.1 6) (σ.2.1 6)) (hx : ∀ i, i < σ.2.1 6 → σ.1 6 i ≠ x) (hc : σ.2.1 6 < 12) (h67 : σ.2.1 6 = σ.2.1 7) (hd : 1 ≤ d) (m : Nat) : m ≤ σ.2.1 6 → (∀ i, m ≤ i → i < σ.2.1 6 → ¬ σ.1 6 i < x) → SW SR0 MX5_pair d bc bs 101 [(3, .int (nI m)), (0, .ref 135), (1, .int x), (2, .int y)] [] h n (RP h n (some (.int (-1))) (la2 (la2 σ 6 (prR σ x) x) 7 (prR σ x) y) th) := by
  obtain ⟨G0, hG0, eG0⟩ := hM.out
  induction m with
  | zero =>
    intro hm hg
    have ep := prR_e (Nat.zero_le _) (fun i hi => absurd hi (Nat.not_lt_zero _)) hg
    refine sw_iload_n (pc' := 102) rfl dX5_pair_101 rfl ?_
    refine sw_if_le (pc' := 105) (tgt := 126) rfl dX5_pair_102 (by decide +kernel) (fun c102 => ?_) (fun c102 => ?_)
    · rw [ep]
      refine sw_aload_n (pc' := 127) rfl dX5_pair_126 rfl ?_
      refine sw_bipush (pc' := 129) (v := 6) rfl dX5_pair_127 (by decide +kernel) ?_
      refine sw_iload_n (pc' := 130) rfl dX5_pair_129 rfl ?_
      refine sw_iload_n (pc' := 131) rfl dX5_pair_130 rfl ?_
      refine sw_V (M' := MX5_comeAt) (d' := d - 1) (bc' := 0) (bs' := 0) (ci := 6) (as := [_, _, _]) dX5_pair_131 w_1199 ok_X5_comeAt (q_comeAt hM hA (k := 6) (p := 0) (by decide +kernel) (by omega) (by omega)) hM.ob rfl (by omega) (Nat.le_of_ble_eq_true rfl) (Nat.zero_le _) (Nat.zero_le _) (fun E h' n' _ z => rp_x z) (rp_k (fun p pρ pτ pM pA pF => ?_))
      obtain ⟨Gp, hGp, eGp⟩ := pM.out
      refine sw_aload_n (pc' := 135) rfl dX5_pair_134 rfl ?_
      refine sw_bipush (pc' := 137) (v := 7) rfl dX5_pair_135 (by decide +kernel) ?_
      refine sw_iload_n (pc' := 138) rfl dX5_pair_137 rfl ?_
      refine sw_iload_n (pc' := 139) rfl dX5_pair_138 rfl ?_
      have e7 : (la2 σ 6 0 x).2.1 7 = σ.2.1 7 := la2_o (by decide +kernel)
      refine sw_V (M' := MX5_comeAt) (d' := d - 1) (bc' := 0) (bs' := 0) (ci := 6) (as := [_, _, _]) dX5_pair_139 w_1199 ok_X5_comeAt (q_comeAt pM pA (k := 7) (p := 0) (by decide +kernel) (by omega) (by omega)) pM.ob rfl (by omega) (Nat.le_of_ble_eq_true rfl) (Nat.zero_le _) (Nat.zero_le _) (fun E h' n' _ z => rp_x z) (rp_k (fun p2 p2ρ p2τ p2M p2A p2F => ?_))
      obtain ⟨Gp2, hGp2, eGp2⟩ := p2M.out
      refine sw_iconst (pc' := 143) (v := (-1)) rfl dX5_pair_142 (by decide +kernel) ?_
      refine sw_ret (v := some _) ⟨dX5_pair_143, _, rfl, rfl⟩ ?_
      exact ⟨rfl, rfl, ⟨_, _, p2M, p2A⟩, pF.tr p2F (Nat.le_refl _)⟩
    · exact absurd (Int32.le_refl 0) c102
  | succ m ih =>
    intro hm hg
    refine sw_iload_n (pc' := 102) rfl dX5_pair_101 rfl ?_
    refine sw_if_le (pc' := 105) (tgt := 126) rfl dX5_pair_102 (by decide +kernel) (fun c102 => ?_) (fun c102 => ?_)
    · exact absurd c102 (nI_nle (by omega) (by omega))
    · refine sw_aload_n (pc' := 106) rfl dX5_pair_105 rfl ?_
      refine sw_getf (ci := 6) (k := 3) (pc' := 109) rfl dX5_pair_106 (by decide +kernel) w_1116 hM.ob rfl ?_
      refine sw_bipush (pc' := 111) (v := 6) rfl dX5_pair_109 (by decide +kernel) ?_
      refine sw_aald (j := 6) (pc' := 112) rfl dX5_pair_111 hG0 (by decide +kernel) (by decide +kernel) rfl (by omega) (by decide +kernel) (eG0 6 (by omega)) ?_
      refine sw_iload_n (pc' := 113) rfl dX5_pair_112 rfl ?_
      refine sw_iconst (pc' := 114) (v := 1) rfl dX5_pair_113 (by decide +kernel) ?_
      refine sw_isub (pc' := 115) rfl dX5_pair_114 ?_
      refine sw_iald (j := m) (pc' := 116) rfl dX5_pair_115 (hM.row (k := 6) (by omega)) (nI_pred m) (by omega) (by decide +kernel) ?_
      rw [hA.1 6 (by omega) m (by omega)]
      refine sw_iload_n (pc' := 117) rfl dX5_pair_116 rfl ?_
      refine sw_icmp_le (pc' := 120) (tgt := 126) rfl dX5_pair_117 (by decide +kernel) (fun c117 => ?_) (fun c117 => ?_)
      · have hlt : σ.1 6 m < x := Int32.lt_of_le_of_ne c117 (hx m (by omega))
        have ep := prR_e hm (srt_up hs (by omega) hlt) hg
        rw [ep]
        refine sw_aload_n (pc' := 127) rfl dX5_pair_126 rfl ?_
        refine sw_bipush (pc' := 129) (v := 6) rfl dX5_pair_127 (by decide +kernel) ?_
        refine sw_iload_n (pc' := 130) rfl dX5_pair_129 rfl ?_
        refine sw_iload_n (pc' := 131) rfl dX5_pair_130 rfl ?_
        refine sw_V (M' := MX5_comeAt) (d' := d - 1) (bc' := 0) (bs' := 0) (ci := 6) (as := [_, _, _]) dX5_pair_131 w_1199 ok_X5_comeAt (q_comeAt hM hA (k := 6) (p := m + 1) (by decide +kernel) (by omega) (by omega)) hM.ob rfl (by omega) (Nat.le_of_ble_eq_true rfl) (Nat.zero_le _) (Nat.zero_le _) (fun E h' n' _ z => rp_x z) (rp_k (fun p pρ pτ pM pA pF => ?_))
        obtain ⟨Gp, hGp, eGp⟩ := pM.out
        refine sw_aload_n (pc' := 135) rfl dX5_pair_134 rfl ?_
        refine sw_bipush (pc' := 137) (v := 7) rfl dX5_pair_135 (by decide +kernel) ?_
        refine sw_iload_n (pc' := 138) rfl dX5_pair_137 rfl ?_
        refine sw_iload_n (pc' := 139) rfl dX5_pair_138 rfl ?_
        have e7 : (la2 σ 6 (m + 1) x).2.1 7 = σ.2.1 7 := la2_o (by decide +kernel)
        refine sw_V (M' := MX5_comeAt) (d' := d - 1) (bc' := 0) (bs' := 0) (ci := 6) (as := [_, _, _]) dX5_pair_139 w_1199 ok_X5_comeAt (q_comeAt pM pA (k := 7) (p := m + 1) (by decide +kernel) (by omega) (by omega)) pM.ob rfl (by omega) (Nat.le_of_ble_eq_true rfl) (Nat.zero_le _) (Nat.zero_le _) (fun E h' n' _ z => rp_x z) (rp_k (fun p2 p2ρ p2τ p2M p2A p2F => ?_))
        obtain ⟨Gp2, hGp2, eGp2⟩ := p2M.out
        refine sw_iconst (pc' := 143) (v := (-1)) rfl dX5_pair_142 (by decide +kernel) ?_
        refine sw_ret (v := some _) ⟨dX5_pair_143, _, rfl, rfl⟩ ?_
        exact ⟨rfl, rfl, ⟨_, _, p2M, p2A⟩, pF.tr p2F (Nat.le_refl _)⟩
      · refine sw_iinc (pc' := 123) (lv' := [(3, _), (0, _), (1, _), (2, _)]) (v := nI m) rfl dX5_pair_120 rfl ((i_m1 _).trans (nI_pred m)) (by decide +kernel) rfl ?_
        refine sw_goto (tgt := 101) dX5_pair_123 (by decide +kernel) ?_
        refine ih (by omega) (fun i h1 h2 => ?_)
        by_cases e : i = m
        · rw [e]; exact Int32.not_lt.mpr (Int32.le_of_lt (Int32.not_le.mp c117))
        · exact hg i (by omega) h2
theorem q_pair {h : AH} {d bc bs n : Nat} {σ : CS} {th : Int32} {x y : Int32} (hR : RMo h σ th) (hI : Iv σ) (hn : 159 ≤ n) (hd : 8 ≤ d) (h1 : 1 ≤ bc) (h2 : 12 ≤ bs)  : SM SR0 MX5_pair d bc bs [.ref 135, .int x, .int y] h n (PM h n (tc sA sS) (opPair σ x y)) := by
  obtain ⟨ρ, τ, hM, hA⟩ := hR
  obtain ⟨G0, hG0, eG0⟩ := hM.out
  refine sm_of pn_OverwalksModel rfl (Nat.le_of_ble_eq_true rfl) ?_
  rcases e1 : fpN (σ.1 6) x 0 (σ.2.1 6) with _ | p
  · skip
    rcases Classical.em (x < 0 ∨ 100 ≤ x) with qx | qx
    · refine sw_aload_n (pc' := 1) rfl dX5_pair_0 rfl ?_
      refine sw_bipush (pc' := 3) (v := 6) rfl dX5_pair_1 (by decide +kernel) ?_
      refine sw_iload_n (pc' := 4) rfl dX5_pair_3 rfl ?_
      refine sw_V (M' := MX5_firstPlace) (d' := d - 1) (bc' := 0) (bs' := 0) (ci := 6) (as := [_, _]) dX5_pair_4 w_1219 ok_X5_firstPlace (q_firstPlace hM hA (k := 6) (by omega) (hI.1 6 (by omega))) hM.ob rfl (by omega) (Nat.le_of_ble_eq_true rfl) (Nat.zero_le _) (Nat.zero_le _) (fun E h' n' _ z => det_x z) (det_k ?_)
      rw [e1]
      show SW _ _ _ _ _ _ _ (.int (-1) :: _) _ _ _
      refine sw_istore_n (pc' := 8) (lv' := [(3, _), (0, _), (1, _), (2, _)]) rfl dX5_pair_7 (by decide +kernel) rfl ?_
      refine sw_aload_n (pc' := 9) rfl dX5_pair_8 rfl ?_
      refine sw_iload_n (pc' := 10) rfl dX5_pair_9 rfl ?_
      refine sw_iconst (pc' := 11) (v := 0) rfl dX5_pair_10 (by decide +kernel) ?_
      refine sw_bipush (pc' := 13) (v := 99) rfl dX5_pair_11 (by decide +kernel) ?_
      refine sw_S (M' := MX5_isIn) (d' := d - 1) (bc' := 0) (bs' := 0) (as := [_, _, _]) dX5_pair_13 w_1168 ok_X5_isIn (q_isIn) (by omega) (Nat.le_of_ble_eq_true rfl) (Nat.zero_le _) (Nat.zero_le _) (fun E h' n' _ z => det_x z) (det_k ?_)
      rw [show inB x 0 99 = false from inB_99x qx]
      show SW _ _ _ _ _ _ _ (.int 0 :: _) _ _ _
      refine sw_if_eq (pc' := 19) (tgt := 29) rfl dX5_pair_16 (by decide +kernel) (fun c16 => ?_) (fun c16 => ?_)
      · refine sw_iconst (pc' := 30) (v := 1) rfl dX5_pair_29 (by decide +kernel) ?_
        refine sw_goto (tgt := 34) dX5_pair_30 (by decide +kernel) ?_
        refine sw_iload_n (pc' := 35) rfl dX5_pair_34 rfl ?_
        refine sw_iconst (pc' := 36) (v := (-1)) rfl dX5_pair_35 (by decide +kernel) ?_
        refine sw_icmp_ne (pc' := 39) (tgt := 55) rfl dX5_pair_36 (by decide +kernel) (fun c36 => ?_) (fun c36 => ?_)
        · exact absurd c36 (by decide +kernel)
        · refine sw_aload_n (pc' := 40) rfl dX5_pair_39 rfl ?_
          refine sw_getf (ci := 6) (k := 4) (pc' := 43) rfl dX5_pair_40 (by decide +kernel) w_1117 hM.ob rfl ?_
          refine sw_bipush (pc' := 45) (v := 6) rfl dX5_pair_43 (by decide +kernel) ?_
          refine sw_iald (j := 6) (pc' := 46) rfl dX5_pair_45 hM.sz rfl (by omega) (by decide +kernel) ?_
          refine sw_bipush (pc' := 48) (v := 12) rfl dX5_pair_46 (by decide +kernel) ?_
          refine sw_icmp_ne (pc' := 51) (tgt := 55) rfl dX5_pair_48 (by decide +kernel) (fun c48 => ?_) (fun c48 => ?_)
          · refine sw_iconst (pc' := 56) (v := 0) rfl dX5_pair_55 (by decide +kernel) ?_
            refine sw_V (M' := MX5_isStopped_) (d' := d - 1) (bc' := 0) (bs' := 0) (ci := 6) (as := [_, _]) dX5_pair_56 w_1215 ok_X5_isStopped_ (q_isStopped2 (a := true) (b := false) hM hA (by omega)) hM.ob rfl (by omega) (Nat.le_of_ble_eq_true rfl) (Nat.zero_le _) (Nat.zero_le _) (fun E h' n' _ z => rp_x z) (rp_k (fun p56 p56ρ p56τ p56M p56A p56F => ?_))
            obtain ⟨Gp56, hGp56, eGp56⟩ := p56M.out
            show SW _ _ _ _ _ _ _ (.int 1 :: _) _ _ _
            refine sw_if_eq (pc' := 62) (tgt := 64) rfl dX5_pair_59 (by decide +kernel) (fun c59 => ?_) (fun c59 => ?_)
            · exact absurd c59 (by decide +kernel)
            · refine sw_iconst (pc' := 63) (v := 0) rfl dX5_pair_62 (by decide +kernel) ?_
              refine sw_ret (v := some _) ⟨dX5_pair_63, _, rfl, rfl⟩ ?_
              rw [opPair, if_pos qx]
              exact pm_x tc_1 p56M p56A p56F (Nat.le_refl _)
          · refine sw_iconst (pc' := 52) (v := 1) rfl dX5_pair_51 (by decide +kernel) ?_
            refine sw_goto (tgt := 56) dX5_pair_52 (by decide +kernel) ?_
            refine sw_V (M' := MX5_isStopped_) (d' := d - 1) (bc' := 0) (bs' := 0) (ci := 6) (as := [_, _]) dX5_pair_56 w_1215 ok_X5_isStopped_ (q_isStopped2 (a := true) (b := true) hM hA (by omega)) hM.ob rfl (by omega) (Nat.le_of_ble_eq_true rfl) (Nat.zero_le _) (Nat.zero_le _) (fun E h' n' _ z => rp_x z) (rp_k (fun p56 p56ρ p56τ p56M p56A p56F => ?_))
            obtain ⟨Gp56, hGp56, eGp56⟩ := p56M.out
            show SW _ _ _ _ _ _ _ (.int 1 :: _) _ _ _
            refine sw_if_eq (pc' := 62) (tgt := 64) rfl dX5_pair_59 (by decide +kernel) (fun c59 => ?_) (fun c59 => ?_)
            · exact absurd c59 (by decide +kernel)
            · refine sw_iconst (pc' := 63) (v := 0) rfl dX5_pair_62 (by decide +kernel) ?_
              refine sw_ret (v := some _) ⟨dX5_pair_63, _, rfl, rfl⟩ ?_
              rw [opPair, if_pos qx]
              exact pm_x tc_1 p56M p56A p56F (Nat.le_refl _)
      · exact absurd c16 (by decide +kernel)
    rcases Classical.em (y < 0 ∨ 100 ≤ y) with qy | qy
    · refine sw_aload_n (pc' := 1) rfl dX5_pair_0 rfl ?_
      refine sw_bipush (pc' := 3) (v := 6) rfl dX5_pair_1 (by decide +kernel) ?_
      refine sw_iload_n (pc' := 4) rfl dX5_pair_3 rfl ?_
      refine sw_V (M' := MX5_firstPlace) (d' := d - 1) (bc' := 0) (bs' := 0) (ci := 6) (as := [_, _]) dX5_pair_4 w_1219 ok_X5_firstPlace (q_firstPlace hM hA (k := 6) (by omega) (hI.1 6 (by omega))) hM.ob rfl (by omega) (Nat.le_of_ble_eq_true rfl) (Nat.zero_le _) (Nat.zero_le _) (fun E h' n' _ z => det_x z) (det_k ?_)
      rw [e1]
      show SW _ _ _ _ _ _ _ (.int (-1) :: _) _ _ _
      refine sw_istore_n (pc' := 8) (lv' := [(3, _), (0, _), (1, _), (2, _)]) rfl dX5_pair_7 (by decide +kernel) rfl ?_
      refine sw_aload_n (pc' := 9) rfl dX5_pair_8 rfl ?_
      refine sw_iload_n (pc' := 10) rfl dX5_pair_9 rfl ?_
      refine sw_iconst (pc' := 11) (v := 0) rfl dX5_pair_10 (by decide +kernel) ?_
      refine sw_bipush (pc' := 13) (v := 99) rfl dX5_pair_11 (by decide +kernel) ?_
      refine sw_S (M' := MX5_isIn) (d' := d - 1) (bc' := 0) (bs' := 0) (as := [_, _, _]) dX5_pair_13 w_1168 ok_X5_isIn (q_isIn) (by omega) (Nat.le_of_ble_eq_true rfl) (Nat.zero_le _) (Nat.zero_le _) (fun E h' n' _ z => det_x z) (det_k ?_)
      rw [show inB x 0 99 = true from inB_99 qx]
      show SW _ _ _ _ _ _ _ (.int 1 :: _) _ _ _
      refine sw_if_eq (pc' := 19) (tgt := 29) rfl dX5_pair_16 (by decide +kernel) (fun c16 => ?_) (fun c16 => ?_)
      · exact absurd c16 (by decide +kernel)
      · refine sw_iload_n (pc' := 20) rfl dX5_pair_19 rfl ?_
        refine sw_iconst (pc' := 21) (v := 0) rfl dX5_pair_20 (by decide +kernel) ?_
        refine sw_bipush (pc' := 23) (v := 99) rfl dX5_pair_21 (by decide +kernel) ?_
        refine sw_S (M' := MX5_isIn) (d' := d - 1) (bc' := 0) (bs' := 0) (as := [_, _, _]) dX5_pair_23 w_1168 ok_X5_isIn (q_isIn) (by omega) (Nat.le_of_ble_eq_true rfl) (Nat.zero_le _) (Nat.zero_le _) (fun E h' n' _ z => det_x z) (det_k ?_)
        rw [show inB y 0 99 = false from inB_99x qy]
        show SW _ _ _ _ _ _ _ (.int 0 :: _) _ _ _
        refine sw_if_ne (pc' := 29) (tgt := 33) rfl dX5_pair_26 (by decide +kernel) (fun c26 => ?_) (fun c26 => ?_)
        · exact absurd c26 (by decide +kernel)
        · refine sw_iconst (pc' := 30) (v := 1) rfl dX5_pair_29 (by decide +kernel) ?_
          refine sw_goto (tgt := 34) dX5_pair_30 (by decide +kernel) ?_
          refine sw_iload_n (pc' := 35) rfl dX5_pair_34 rfl ?_
          refine sw_iconst (pc' := 36) (v := (-1)) rfl dX5_pair_35 (by decide +kernel) ?_
          refine sw_icmp_ne (pc' := 39) (tgt := 55) rfl dX5_pair_36 (by decide +kernel) (fun c36 => ?_) (fun c36 => ?_)
          · exact absurd c36 (by decide +kernel)
          · refine sw_aload_n (pc' := 40) rfl dX5_pair_39 rfl ?_
            refine sw_getf (ci := 6) (k := 4) (pc' := 43) rfl dX5_pair_40 (by decide +kernel) w_1117 hM.ob rfl ?_
            refine sw_bipush (pc' := 45) (v := 6) rfl dX5_pair_43 (by decide +kernel) ?_
            refine sw_iald (j := 6) (pc' := 46) rfl dX5_pair_45 hM.sz rfl (by omega) (by decide +kernel) ?_
            refine sw_bipush (pc' := 48) (v := 12) rfl dX5_pair_46 (by decide +kernel) ?_
            refine sw_icmp_ne (pc' := 51) (tgt := 55) rfl dX5_pair_48 (by decide +kernel) (fun c48 => ?_) (fun c48 => ?_)
            · refine sw_iconst (pc' := 56) (v := 0) rfl dX5_pair_55 (by decide +kernel) ?_
              refine sw_V (M' := MX5_isStopped_) (d' := d - 1) (bc' := 0) (bs' := 0) (ci := 6) (as := [_, _]) dX5_pair_56 w_1215 ok_X5_isStopped_ (q_isStopped2 (a := true) (b := false) hM hA (by omega)) hM.ob rfl (by omega) (Nat.le_of_ble_eq_true rfl) (Nat.zero_le _) (Nat.zero_le _) (fun E h' n' _ z => rp_x z) (rp_k (fun p56 p56ρ p56τ p56M p56A p56F => ?_))
              obtain ⟨Gp56, hGp56, eGp56⟩ := p56M.out
              show SW _ _ _ _ _ _ _ (.int 1 :: _) _ _ _
              refine sw_if_eq (pc' := 62) (tgt := 64) rfl dX5_pair_59 (by decide +kernel) (fun c59 => ?_) (fun c59 => ?_)
              · exact absurd c59 (by decide +kernel)
              · refine sw_iconst (pc' := 63) (v := 0) rfl dX5_pair_62 (by decide +kernel) ?_
                refine sw_ret (v := some _) ⟨dX5_pair_63, _, rfl, rfl⟩ ?_
                rw [opPair, if_neg qx, if_pos qy]
                exact pm_x tc_1 p56M p56A p56F (Nat.le_refl _)
            · refine sw_iconst (pc' := 52) (v := 1) rfl dX5_pair_51 (by decide +kernel) ?_
              refine sw_goto (tgt := 56) dX5_pair_52 (by decide +kernel) ?_
              refine sw_V (M' := MX5_isStopped_) (d' := d - 1) (bc' := 0) (bs' := 0) (ci := 6) (as := [_, _]) dX5_pair_56 w_1215 ok_X5_isStopped_ (q_isStopped2 (a := true) (b := true) hM hA (by omega)) hM.ob rfl (by omega) (Nat.le_of_ble_eq_true rfl) (Nat.zero_le _) (Nat.zero_le _) (fun E h' n' _ z => rp_x z) (rp_k (fun p56 p56ρ p56τ p56M p56A p56F => ?_))
              obtain ⟨Gp56, hGp56, eGp56⟩ := p56M.out
              show SW _ _ _ _ _ _ _ (.int 1 :: _) _ _ _
              refine sw_if_eq (pc' := 62) (tgt := 64) rfl dX5_pair_59 (by decide +kernel) (fun c59 => ?_) (fun c59 => ?_)
              · exact absurd c59 (by decide +kernel)
              · refine sw_iconst (pc' := 63) (v := 0) rfl dX5_pair_62 (by decide +kernel) ?_
                refine sw_ret (v := some _) ⟨dX5_pair_63, _, rfl, rfl⟩ ?_
                rw [opPair, if_neg qx, if_pos qy]
                exact pm_x tc_1 p56M p56A p56F (Nat.le_refl _)
    rcases Classical.em (12 < nI (σ.2.1 6) + 1) with qr | qr
    · refine sw_aload_n (pc' := 1) rfl dX5_pair_0 rfl ?_
      refine sw_bipush (pc' := 3) (v := 6) rfl dX5_pair_1 (by decide +kernel) ?_
      refine sw_iload_n (pc' := 4) rfl dX5_pair_3 rfl ?_
      refine sw_V (M' := MX5_firstPlace) (d' := d - 1) (bc' := 0) (bs' := 0) (ci := 6) (as := [_, _]) dX5_pair_4 w_1219 ok_X5_firstPlace (q_firstPlace hM hA (k := 6) (by omega) (hI.1 6 (by omega))) hM.ob rfl (by omega) (Nat.le_of_ble_eq_true rfl) (Nat.zero_le _) (Nat.zero_le _) (fun E h' n' _ z => det_x z) (det_k ?_)
      rw [e1]
      show SW _ _ _ _ _ _ _ (.int (-1) :: _) _ _ _
      refine sw_istore_n (pc' := 8) (lv' := [(3, _), (0, _), (1, _), (2, _)]) rfl dX5_pair_7 (by decide +kernel) rfl ?_
      refine sw_aload_n (pc' := 9) rfl dX5_pair_8 rfl ?_
      refine sw_iload_n (pc' := 10) rfl dX5_pair_9 rfl ?_
      refine sw_iconst (pc' := 11) (v := 0) rfl dX5_pair_10 (by decide +kernel) ?_
      refine sw_bipush (pc' := 13) (v := 99) rfl dX5_pair_11 (by decide +kernel) ?_
      refine sw_S (M' := MX5_isIn) (d' := d - 1) (bc' := 0) (bs' := 0) (as := [_, _, _]) dX5_pair_13 w_1168 ok_X5_isIn (q_isIn) (by omega) (Nat.le_of_ble_eq_true rfl) (Nat.zero_le _) (Nat.zero_le _) (fun E h' n' _ z => det_x z) (det_k ?_)
      rw [show inB x 0 99 = true from inB_99 qx]
      show SW _ _ _ _ _ _ _ (.int 1 :: _) _ _ _
      refine sw_if_eq (pc' := 19) (tgt := 29) rfl dX5_pair_16 (by decide +kernel) (fun c16 => ?_) (fun c16 => ?_)
      · exact absurd c16 (by decide +kernel)
      · refine sw_iload_n (pc' := 20) rfl dX5_pair_19 rfl ?_
        refine sw_iconst (pc' := 21) (v := 0) rfl dX5_pair_20 (by decide +kernel) ?_
        refine sw_bipush (pc' := 23) (v := 99) rfl dX5_pair_21 (by decide +kernel) ?_
        refine sw_S (M' := MX5_isIn) (d' := d - 1) (bc' := 0) (bs' := 0) (as := [_, _, _]) dX5_pair_23 w_1168 ok_X5_isIn (q_isIn) (by omega) (Nat.le_of_ble_eq_true rfl) (Nat.zero_le _) (Nat.zero_le _) (fun E h' n' _ z => det_x z) (det_k ?_)
        rw [show inB y 0 99 = true from inB_99 qy]
        show SW _ _ _ _ _ _ _ (.int 1 :: _) _ _ _
        refine sw_if_ne (pc' := 29) (tgt := 33) rfl dX5_pair_26 (by decide +kernel) (fun c26 => ?_) (fun c26 => ?_)
        · refine sw_iconst (pc' := 34) (v := 0) rfl dX5_pair_33 (by decide +kernel) ?_
          refine sw_iload_n (pc' := 35) rfl dX5_pair_34 rfl ?_
          refine sw_iconst (pc' := 36) (v := (-1)) rfl dX5_pair_35 (by decide +kernel) ?_
          refine sw_icmp_ne (pc' := 39) (tgt := 55) rfl dX5_pair_36 (by decide +kernel) (fun c36 => ?_) (fun c36 => ?_)
          · exact absurd c36 (by decide +kernel)
          · refine sw_aload_n (pc' := 40) rfl dX5_pair_39 rfl ?_
            refine sw_getf (ci := 6) (k := 4) (pc' := 43) rfl dX5_pair_40 (by decide +kernel) w_1117 hM.ob rfl ?_
            refine sw_bipush (pc' := 45) (v := 6) rfl dX5_pair_43 (by decide +kernel) ?_
            refine sw_iald (j := 6) (pc' := 46) rfl dX5_pair_45 hM.sz rfl (by omega) (by decide +kernel) ?_
            refine sw_bipush (pc' := 48) (v := 12) rfl dX5_pair_46 (by decide +kernel) ?_
            refine sw_icmp_ne (pc' := 51) (tgt := 55) rfl dX5_pair_48 (by decide +kernel) (fun c48 => ?_) (fun c48 => ?_)
            · exact absurd ((nI12 (hI.1 6 (by decide +kernel))).mpr (full (hI.1 6 (by decide +kernel)) qr)) c48
            · refine sw_iconst (pc' := 52) (v := 1) rfl dX5_pair_51 (by decide +kernel) ?_
              refine sw_goto (tgt := 56) dX5_pair_52 (by decide +kernel) ?_
              refine sw_V (M' := MX5_isStopped_) (d' := d - 1) (bc' := 0) (bs' := 0) (ci := 6) (as := [_, _]) dX5_pair_56 w_1215 ok_X5_isStopped_ (q_isStopped2 (a := false) (b := true) hM hA (by omega)) hM.ob rfl (by omega) (Nat.le_of_ble_eq_true rfl) (Nat.zero_le _) (Nat.zero_le _) (fun E h' n' _ z => rp_x z) (rp_k (fun p56 p56ρ p56τ p56M p56A p56F => ?_))
              obtain ⟨Gp56, hGp56, eGp56⟩ := p56M.out
              show SW _ _ _ _ _ _ _ (.int 1 :: _) _ _ _
              refine sw_if_eq (pc' := 62) (tgt := 64) rfl dX5_pair_59 (by decide +kernel) (fun c59 => ?_) (fun c59 => ?_)
              · exact absurd c59 (by decide +kernel)
              · refine sw_iconst (pc' := 63) (v := 0) rfl dX5_pair_62 (by decide +kernel) ?_
                refine sw_ret (v := some _) ⟨dX5_pair_63, _, rfl, rfl⟩ ?_
                rw [opPair, if_neg qx, if_neg qy, e1, if_pos qr]
                exact pm_x (tc_2 sSA) p56M p56A p56F (Nat.le_refl _)
        · exact absurd c26 (by decide +kernel)
    have hroom := full_n (hI.1 6 (by decide +kernel)) qr
    refine sw_aload_n (pc' := 1) rfl dX5_pair_0 rfl ?_
    refine sw_bipush (pc' := 3) (v := 6) rfl dX5_pair_1 (by decide +kernel) ?_
    refine sw_iload_n (pc' := 4) rfl dX5_pair_3 rfl ?_
    refine sw_V (M' := MX5_firstPlace) (d' := d - 1) (bc' := 0) (bs' := 0) (ci := 6) (as := [_, _]) dX5_pair_4 w_1219 ok_X5_firstPlace (q_firstPlace hM hA (k := 6) (by omega) (hI.1 6 (by omega))) hM.ob rfl (by omega) (Nat.le_of_ble_eq_true rfl) (Nat.zero_le _) (Nat.zero_le _) (fun E h' n' _ z => det_x z) (det_k ?_)
    rw [e1]
    show SW _ _ _ _ _ _ _ (.int (-1) :: _) _ _ _
    refine sw_istore_n (pc' := 8) (lv' := [(3, _), (0, _), (1, _), (2, _)]) rfl dX5_pair_7 (by decide +kernel) rfl ?_
    refine sw_aload_n (pc' := 9) rfl dX5_pair_8 rfl ?_
    refine sw_iload_n (pc' := 10) rfl dX5_pair_9 rfl ?_
    refine sw_iconst (pc' := 11) (v := 0) rfl dX5_pair_10 (by decide +kernel) ?_
    refine sw_bipush (pc' := 13) (v := 99) rfl dX5_pair_11 (by decide +kernel) ?_
    refine sw_S (M' := MX5_isIn) (d' := d - 1) (bc' := 0) (bs' := 0) (as := [_, _, _]) dX5_pair_13 w_1168 ok_X5_isIn (q_isIn) (by omega) (Nat.le_of_ble_eq_true rfl) (Nat.zero_le _) (Nat.zero_le _) (fun E h' n' _ z => det_x z) (det_k ?_)
    rw [show inB x 0 99 = true from inB_99 qx]
    show SW _ _ _ _ _ _ _ (.int 1 :: _) _ _ _
    refine sw_if_eq (pc' := 19) (tgt := 29) rfl dX5_pair_16 (by decide +kernel) (fun c16 => ?_) (fun c16 => ?_)
    · exact absurd c16 (by decide +kernel)
    · refine sw_iload_n (pc' := 20) rfl dX5_pair_19 rfl ?_
      refine sw_iconst (pc' := 21) (v := 0) rfl dX5_pair_20 (by decide +kernel) ?_
      refine sw_bipush (pc' := 23) (v := 99) rfl dX5_pair_21 (by decide +kernel) ?_
      refine sw_S (M' := MX5_isIn) (d' := d - 1) (bc' := 0) (bs' := 0) (as := [_, _, _]) dX5_pair_23 w_1168 ok_X5_isIn (q_isIn) (by omega) (Nat.le_of_ble_eq_true rfl) (Nat.zero_le _) (Nat.zero_le _) (fun E h' n' _ z => det_x z) (det_k ?_)
      rw [show inB y 0 99 = true from inB_99 qy]
      show SW _ _ _ _ _ _ _ (.int 1 :: _) _ _ _
      refine sw_if_ne (pc' := 29) (tgt := 33) rfl dX5_pair_26 (by decide +kernel) (fun c26 => ?_) (fun c26 => ?_)
      · refine sw_iconst (pc' := 34) (v := 0) rfl dX5_pair_33 (by decide +kernel) ?_
        refine sw_iload_n (pc' := 35) rfl dX5_pair_34 rfl ?_
        refine sw_iconst (pc' := 36) (v := (-1)) rfl dX5_pair_35 (by decide +kernel) ?_
        refine sw_icmp_ne (pc' := 39) (tgt := 55) rfl dX5_pair_36 (by decide +kernel) (fun c36 => ?_) (fun c36 => ?_)
        · exact absurd c36 (by decide +kernel)
        · refine sw_aload_n (pc' := 40) rfl dX5_pair_39 rfl ?_
          refine sw_getf (ci := 6) (k := 4) (pc' := 43) rfl dX5_pair_40 (by decide +kernel) w_1117 hM.ob rfl ?_
          refine sw_bipush (pc' := 45) (v := 6) rfl dX5_pair_43 (by decide +kernel) ?_
          refine sw_iald (j := 6) (pc' := 46) rfl dX5_pair_45 hM.sz rfl (by omega) (by decide +kernel) ?_
          refine sw_bipush (pc' := 48) (v := 12) rfl dX5_pair_46 (by decide +kernel) ?_
          refine sw_icmp_ne (pc' := 51) (tgt := 55) rfl dX5_pair_48 (by decide +kernel) (fun c48 => ?_) (fun c48 => ?_)
          · refine sw_iconst (pc' := 56) (v := 0) rfl dX5_pair_55 (by decide +kernel) ?_
            refine sw_V (M' := MX5_isStopped_) (d' := d - 1) (bc' := 0) (bs' := 0) (ci := 6) (as := [_, _]) dX5_pair_56 w_1215 ok_X5_isStopped_ (q_isStopped2 (a := false) (b := false) hM hA (by omega)) hM.ob rfl (by omega) (Nat.le_of_ble_eq_true rfl) (Nat.zero_le _) (Nat.zero_le _) (fun E h' n' _ z => rp_x z) (rp_k (fun p56 p56ρ p56τ p56M p56A p56F => ?_))
            obtain ⟨Gp56, hGp56, eGp56⟩ := p56M.out
            show SW _ _ _ _ _ _ _ (.int 0 :: _) _ _ _
            refine sw_if_eq (pc' := 62) (tgt := 64) rfl dX5_pair_59 (by decide +kernel) (fun c59 => ?_) (fun c59 => ?_)
            · refine sw_iload_n (pc' := 65) rfl dX5_pair_64 rfl ?_
              refine sw_iconst (pc' := 66) (v := (-1)) rfl dX5_pair_65 (by decide +kernel) ?_
              refine sw_icmp_eq (pc' := 69) (tgt := 93) rfl dX5_pair_66 (by decide +kernel) (fun c66 => ?_) (fun c66 => ?_)
              · refine sw_aload_n (pc' := 94) rfl dX5_pair_93 rfl ?_
                refine sw_getf (ci := 6) (k := 4) (pc' := 97) rfl dX5_pair_94 (by decide +kernel) w_1117 p56M.ob rfl ?_
                refine sw_bipush (pc' := 99) (v := 6) rfl dX5_pair_97 (by decide +kernel) ?_
                refine sw_iald (j := 6) (pc' := 100) rfl dX5_pair_99 p56M.sz rfl (by omega) (by decide +kernel) ?_
                refine sw_istore_n (pc' := 101) (lv' := [(3, _), (0, _), (1, _), (2, _)]) rfl dX5_pair_100 (by decide +kernel) rfl ?_
                have g := ql_pair (d := d) (bc := bc) (bs := bs) (n := n) (x := x) (y := y) p56M p56A hI.2.2.2.2.1 (fun i hi => fpN_none.mp e1 i (Nat.zero_le _) (by omega)) hroom hI.2.1 (by omega) (σ.2.1 6) (Nat.le_refl _) (fun i h1 h2 => absurd h2 (by omega))
                refine SW.post g (fun r' h' n' z => ?_)
                obtain ⟨rfl, rfl, ⟨_, _, qM, qA⟩, qF⟩ := z
                rw [opPair, if_neg qx, if_neg qy, e1, if_neg qr]
                exact pm_k qM qA (p56F.tr qF (Nat.le_refl _)) (Nat.le_refl _)
              · exact absurd c66 (by decide +kernel)
            · exact absurd c59 (by decide +kernel)
          · exact absurd ((nI12 (hI.1 6 (by decide +kernel))).mp c48) (by omega)
      · exact absurd c26 (by decide +kernel)
  · have hp := fp_i e1
    have h67 := hI.2.1
    rcases Classical.em (x < 0 ∨ 100 ≤ x) with qx | qx
    · refine sw_aload_n (pc' := 1) rfl dX5_pair_0 rfl ?_
      refine sw_bipush (pc' := 3) (v := 6) rfl dX5_pair_1 (by decide +kernel) ?_
      refine sw_iload_n (pc' := 4) rfl dX5_pair_3 rfl ?_
      refine sw_V (M' := MX5_firstPlace) (d' := d - 1) (bc' := 0) (bs' := 0) (ci := 6) (as := [_, _]) dX5_pair_4 w_1219 ok_X5_firstPlace (q_firstPlace hM hA (k := 6) (by omega) (hI.1 6 (by omega))) hM.ob rfl (by omega) (Nat.le_of_ble_eq_true rfl) (Nat.zero_le _) (Nat.zero_le _) (fun E h' n' _ z => det_x z) (det_k ?_)
      rw [e1]
      show SW _ _ _ _ _ _ _ (.int (nI p) :: _) _ _ _
      refine sw_istore_n (pc' := 8) (lv' := [(3, _), (0, _), (1, _), (2, _)]) rfl dX5_pair_7 (by decide +kernel) rfl ?_
      refine sw_aload_n (pc' := 9) rfl dX5_pair_8 rfl ?_
      refine sw_iload_n (pc' := 10) rfl dX5_pair_9 rfl ?_
      refine sw_iconst (pc' := 11) (v := 0) rfl dX5_pair_10 (by decide +kernel) ?_
      refine sw_bipush (pc' := 13) (v := 99) rfl dX5_pair_11 (by decide +kernel) ?_
      refine sw_S (M' := MX5_isIn) (d' := d - 1) (bc' := 0) (bs' := 0) (as := [_, _, _]) dX5_pair_13 w_1168 ok_X5_isIn (q_isIn) (by omega) (Nat.le_of_ble_eq_true rfl) (Nat.zero_le _) (Nat.zero_le _) (fun E h' n' _ z => det_x z) (det_k ?_)
      rw [show inB x 0 99 = false from inB_99x qx]
      show SW _ _ _ _ _ _ _ (.int 0 :: _) _ _ _
      refine sw_if_eq (pc' := 19) (tgt := 29) rfl dX5_pair_16 (by decide +kernel) (fun c16 => ?_) (fun c16 => ?_)
      · refine sw_iconst (pc' := 30) (v := 1) rfl dX5_pair_29 (by decide +kernel) ?_
        refine sw_goto (tgt := 34) dX5_pair_30 (by decide +kernel) ?_
        refine sw_iload_n (pc' := 35) rfl dX5_pair_34 rfl ?_
        refine sw_iconst (pc' := 36) (v := (-1)) rfl dX5_pair_35 (by decide +kernel) ?_
        refine sw_icmp_ne (pc' := 39) (tgt := 55) rfl dX5_pair_36 (by decide +kernel) (fun c36 => ?_) (fun c36 => ?_)
        · refine sw_iconst (pc' := 56) (v := 0) rfl dX5_pair_55 (by decide +kernel) ?_
          refine sw_V (M' := MX5_isStopped_) (d' := d - 1) (bc' := 0) (bs' := 0) (ci := 6) (as := [_, _]) dX5_pair_56 w_1215 ok_X5_isStopped_ (q_isStopped2 (a := true) (b := false) hM hA (by omega)) hM.ob rfl (by omega) (Nat.le_of_ble_eq_true rfl) (Nat.zero_le _) (Nat.zero_le _) (fun E h' n' _ z => rp_x z) (rp_k (fun p56 p56ρ p56τ p56M p56A p56F => ?_))
          obtain ⟨Gp56, hGp56, eGp56⟩ := p56M.out
          show SW _ _ _ _ _ _ _ (.int 1 :: _) _ _ _
          refine sw_if_eq (pc' := 62) (tgt := 64) rfl dX5_pair_59 (by decide +kernel) (fun c59 => ?_) (fun c59 => ?_)
          · exact absurd c59 (by decide +kernel)
          · refine sw_iconst (pc' := 63) (v := 0) rfl dX5_pair_62 (by decide +kernel) ?_
            refine sw_ret (v := some _) ⟨dX5_pair_63, _, rfl, rfl⟩ ?_
            rw [opPair, if_pos qx]
            exact pm_x tc_1 p56M p56A p56F (Nat.le_refl _)
        · exact absurd c36 (nI_ne1 (by have := hI.1 6 (by decide +kernel); omega))
      · exact absurd c16 (by decide +kernel)
    rcases Classical.em (y < 0 ∨ 100 ≤ y) with qy | qy
    · refine sw_aload_n (pc' := 1) rfl dX5_pair_0 rfl ?_
      refine sw_bipush (pc' := 3) (v := 6) rfl dX5_pair_1 (by decide +kernel) ?_
      refine sw_iload_n (pc' := 4) rfl dX5_pair_3 rfl ?_
      refine sw_V (M' := MX5_firstPlace) (d' := d - 1) (bc' := 0) (bs' := 0) (ci := 6) (as := [_, _]) dX5_pair_4 w_1219 ok_X5_firstPlace (q_firstPlace hM hA (k := 6) (by omega) (hI.1 6 (by omega))) hM.ob rfl (by omega) (Nat.le_of_ble_eq_true rfl) (Nat.zero_le _) (Nat.zero_le _) (fun E h' n' _ z => det_x z) (det_k ?_)
      rw [e1]
      show SW _ _ _ _ _ _ _ (.int (nI p) :: _) _ _ _
      refine sw_istore_n (pc' := 8) (lv' := [(3, _), (0, _), (1, _), (2, _)]) rfl dX5_pair_7 (by decide +kernel) rfl ?_
      refine sw_aload_n (pc' := 9) rfl dX5_pair_8 rfl ?_
      refine sw_iload_n (pc' := 10) rfl dX5_pair_9 rfl ?_
      refine sw_iconst (pc' := 11) (v := 0) rfl dX5_pair_10 (by decide +kernel) ?_
      refine sw_bipush (pc' := 13) (v := 99) rfl dX5_pair_11 (by decide +kernel) ?_
      refine sw_S (M' := MX5_isIn) (d' := d - 1) (bc' := 0) (bs' := 0) (as := [_, _, _]) dX5_pair_13 w_1168 ok_X5_isIn (q_isIn) (by omega) (Nat.le_of_ble_eq_true rfl) (Nat.zero_le _) (Nat.zero_le _) (fun E h' n' _ z => det_x z) (det_k ?_)
      rw [show inB x 0 99 = true from inB_99 qx]
      show SW _ _ _ _ _ _ _ (.int 1 :: _) _ _ _
      refine sw_if_eq (pc' := 19) (tgt := 29) rfl dX5_pair_16 (by decide +kernel) (fun c16 => ?_) (fun c16 => ?_)
      · exact absurd c16 (by decide +kernel)
      · refine sw_iload_n (pc' := 20) rfl dX5_pair_19 rfl ?_
        refine sw_iconst (pc' := 21) (v := 0) rfl dX5_pair_20 (by decide +kernel) ?_
        refine sw_bipush (pc' := 23) (v := 99) rfl dX5_pair_21 (by decide +kernel) ?_
        refine sw_S (M' := MX5_isIn) (d' := d - 1) (bc' := 0) (bs' := 0) (as := [_, _, _]) dX5_pair_23 w_1168 ok_X5_isIn (q_isIn) (by omega) (Nat.le_of_ble_eq_true rfl) (Nat.zero_le _) (Nat.zero_le _) (fun E h' n' _ z => det_x z) (det_k ?_)
        rw [show inB y 0 99 = false from inB_99x qy]
        show SW _ _ _ _ _ _ _ (.int 0 :: _) _ _ _
        refine sw_if_ne (pc' := 29) (tgt := 33) rfl dX5_pair_26 (by decide +kernel) (fun c26 => ?_) (fun c26 => ?_)
        · exact absurd c26 (by decide +kernel)
        · refine sw_iconst (pc' := 30) (v := 1) rfl dX5_pair_29 (by decide +kernel) ?_
          refine sw_goto (tgt := 34) dX5_pair_30 (by decide +kernel) ?_
          refine sw_iload_n (pc' := 35) rfl dX5_pair_34 rfl ?_
          refine sw_iconst (pc' := 36) (v := (-1)) rfl dX5_pair_35 (by decide +kernel) ?_
          refine sw_icmp_ne (pc' := 39) (tgt := 55) rfl dX5_pair_36 (by decide +kernel) (fun c36 => ?_) (fun c36 => ?_)
          · refine sw_iconst (pc' := 56) (v := 0) rfl dX5_pair_55 (by decide +kernel) ?_
            refine sw_V (M' := MX5_isStopped_) (d' := d - 1) (bc' := 0) (bs' := 0) (ci := 6) (as := [_, _]) dX5_pair_56 w_1215 ok_X5_isStopped_ (q_isStopped2 (a := true) (b := false) hM hA (by omega)) hM.ob rfl (by omega) (Nat.le_of_ble_eq_true rfl) (Nat.zero_le _) (Nat.zero_le _) (fun E h' n' _ z => rp_x z) (rp_k (fun p56 p56ρ p56τ p56M p56A p56F => ?_))
            obtain ⟨Gp56, hGp56, eGp56⟩ := p56M.out
            show SW _ _ _ _ _ _ _ (.int 1 :: _) _ _ _
            refine sw_if_eq (pc' := 62) (tgt := 64) rfl dX5_pair_59 (by decide +kernel) (fun c59 => ?_) (fun c59 => ?_)
            · exact absurd c59 (by decide +kernel)
            · refine sw_iconst (pc' := 63) (v := 0) rfl dX5_pair_62 (by decide +kernel) ?_
              refine sw_ret (v := some _) ⟨dX5_pair_63, _, rfl, rfl⟩ ?_
              rw [opPair, if_neg qx, if_pos qy]
              exact pm_x tc_1 p56M p56A p56F (Nat.le_refl _)
          · exact absurd c36 (nI_ne1 (by have := hI.1 6 (by decide +kernel); omega))
    refine sw_aload_n (pc' := 1) rfl dX5_pair_0 rfl ?_
    refine sw_bipush (pc' := 3) (v := 6) rfl dX5_pair_1 (by decide +kernel) ?_
    refine sw_iload_n (pc' := 4) rfl dX5_pair_3 rfl ?_
    refine sw_V (M' := MX5_firstPlace) (d' := d - 1) (bc' := 0) (bs' := 0) (ci := 6) (as := [_, _]) dX5_pair_4 w_1219 ok_X5_firstPlace (q_firstPlace hM hA (k := 6) (by omega) (hI.1 6 (by omega))) hM.ob rfl (by omega) (Nat.le_of_ble_eq_true rfl) (Nat.zero_le _) (Nat.zero_le _) (fun E h' n' _ z => det_x z) (det_k ?_)
    rw [e1]
    show SW _ _ _ _ _ _ _ (.int (nI p) :: _) _ _ _
    refine sw_istore_n (pc' := 8) (lv' := [(3, _), (0, _), (1, _), (2, _)]) rfl dX5_pair_7 (by decide +kernel) rfl ?_
    refine sw_aload_n (pc' := 9) rfl dX5_pair_8 rfl ?_
    refine sw_iload_n (pc' := 10) rfl dX5_pair_9 rfl ?_
    refine sw_iconst (pc' := 11) (v := 0) rfl dX5_pair_10 (by decide +kernel) ?_
    refine sw_bipush (pc' := 13) (v := 99) rfl dX5_pair_11 (by decide +kernel) ?_
    refine sw_S (M' := MX5_isIn) (d' := d - 1) (bc' := 0) (bs' := 0) (as := [_, _, _]) dX5_pair_13 w_1168 ok_X5_isIn (q_isIn) (by omega) (Nat.le_of_ble_eq_true rfl) (Nat.zero_le _) (Nat.zero_le _) (fun E h' n' _ z => det_x z) (det_k ?_)
    rw [show inB x 0 99 = true from inB_99 qx]
    show SW _ _ _ _ _ _ _ (.int 1 :: _) _ _ _
    refine sw_if_eq (pc' := 19) (tgt := 29) rfl dX5_pair_16 (by decide +kernel) (fun c16 => ?_) (fun c16 => ?_)
    · exact absurd c16 (by decide +kernel)
    · refine sw_iload_n (pc' := 20) rfl dX5_pair_19 rfl ?_
      refine sw_iconst (pc' := 21) (v := 0) rfl dX5_pair_20 (by decide +kernel) ?_
      refine sw_bipush (pc' := 23) (v := 99) rfl dX5_pair_21 (by decide +kernel) ?_
      refine sw_S (M' := MX5_isIn) (d' := d - 1) (bc' := 0) (bs' := 0) (as := [_, _, _]) dX5_pair_23 w_1168 ok_X5_isIn (q_isIn) (by omega) (Nat.le_of_ble_eq_true rfl) (Nat.zero_le _) (Nat.zero_le _) (fun E h' n' _ z => det_x z) (det_k ?_)
      rw [show inB y 0 99 = true from inB_99 qy]
      show SW _ _ _ _ _ _ _ (.int 1 :: _) _ _ _
      refine sw_if_ne (pc' := 29) (tgt := 33) rfl dX5_pair_26 (by decide +kernel) (fun c26 => ?_) (fun c26 => ?_)
      · refine sw_iconst (pc' := 34) (v := 0) rfl dX5_pair_33 (by decide +kernel) ?_
        refine sw_iload_n (pc' := 35) rfl dX5_pair_34 rfl ?_
        refine sw_iconst (pc' := 36) (v := (-1)) rfl dX5_pair_35 (by decide +kernel) ?_
        refine sw_icmp_ne (pc' := 39) (tgt := 55) rfl dX5_pair_36 (by decide +kernel) (fun c36 => ?_) (fun c36 => ?_)
        · refine sw_iconst (pc' := 56) (v := 0) rfl dX5_pair_55 (by decide +kernel) ?_
          refine sw_V (M' := MX5_isStopped_) (d' := d - 1) (bc' := 0) (bs' := 0) (ci := 6) (as := [_, _]) dX5_pair_56 w_1215 ok_X5_isStopped_ (q_isStopped2 (a := false) (b := false) hM hA (by omega)) hM.ob rfl (by omega) (Nat.le_of_ble_eq_true rfl) (Nat.zero_le _) (Nat.zero_le _) (fun E h' n' _ z => rp_x z) (rp_k (fun p56 p56ρ p56τ p56M p56A p56F => ?_))
          obtain ⟨Gp56, hGp56, eGp56⟩ := p56M.out
          show SW _ _ _ _ _ _ _ (.int 0 :: _) _ _ _
          refine sw_if_eq (pc' := 62) (tgt := 64) rfl dX5_pair_59 (by decide +kernel) (fun c59 => ?_) (fun c59 => ?_)
          · refine sw_iload_n (pc' := 65) rfl dX5_pair_64 rfl ?_
            refine sw_iconst (pc' := 66) (v := (-1)) rfl dX5_pair_65 (by decide +kernel) ?_
            refine sw_icmp_eq (pc' := 69) (tgt := 93) rfl dX5_pair_66 (by decide +kernel) (fun c66 => ?_) (fun c66 => ?_)
            · exact absurd c66 (nI_ne1 (by have := hI.1 6 (by decide +kernel); omega))
            · refine sw_aload_n (pc' := 70) rfl dX5_pair_69 rfl ?_
              refine sw_getf (ci := 6) (k := 3) (pc' := 73) rfl dX5_pair_70 (by decide +kernel) w_1116 p56M.ob rfl ?_
              refine sw_bipush (pc' := 75) (v := 7) rfl dX5_pair_73 (by decide +kernel) ?_
              refine sw_aald (j := 7) (pc' := 76) rfl dX5_pair_75 hGp56 (by decide +kernel) (by decide +kernel) rfl (by omega) (by decide +kernel) (eGp56 7 (by omega)) ?_
              refine sw_iload_n (pc' := 77) rfl dX5_pair_76 rfl ?_
              refine sw_iald (j := p) (pc' := 78) rfl dX5_pair_77 (p56M.row (k := 7) (by omega)) rfl (by have := hI.1 6 (by decide +kernel); omega) (by decide +kernel) ?_
              rw [p56A.1 7 (by omega) p (by omega)]
              refine sw_istore (pc' := 80) (lv' := [(4, _), (3, _), (0, _), (1, _), (2, _)]) rfl dX5_pair_78 (by decide +kernel) rfl ?_
              refine sw_aload_n (pc' := 81) rfl dX5_pair_80 rfl ?_
              refine sw_getf (ci := 6) (k := 3) (pc' := 84) rfl dX5_pair_81 (by decide +kernel) w_1116 p56M.ob rfl ?_
              refine sw_bipush (pc' := 86) (v := 7) rfl dX5_pair_84 (by decide +kernel) ?_
              refine sw_aald (j := 7) (pc' := 87) rfl dX5_pair_86 hGp56 (by decide +kernel) (by decide +kernel) rfl (by omega) (by decide +kernel) (eGp56 7 (by omega)) ?_
              refine sw_iload_n (pc' := 88) rfl dX5_pair_87 rfl ?_
              refine sw_iload_n (pc' := 89) rfl dX5_pair_88 rfl ?_
              refine sw_iast (j := p) (pc' := 90) rfl dX5_pair_89 (p56M.row (k := 7) (by omega)) (by show 100 ≤ _; omega) rfl (by have := hI.1 6 (by decide +kernel); omega) (by decide +kernel) ?_
              refine sw_nm (fun g1 eg1 => ?_)
              have zg1 := (congrFun eg1 (137 + 7)).trans (up_s (h := p56) (i := (137 + 7)))
              refine sw_iload (pc' := 92) rfl dX5_pair_90 rfl ?_
              refine sw_ret (v := some _) ⟨dX5_pair_92, _, rfl, rfl⟩ ?_
              rw [opPair, if_neg qx, if_neg qy, e1]
              exact pm_k (p56M.rwU (by decide +kernel) zg1 (fun i h1 => (congrFun eg1 i).trans ((up_n h1).trans (rfl)))) (p56A.shU (up_at (p56A.1 7 (by decide +kernel)))) (p56F.tr (FrM.of1 (fun i q => (congrFun eg1 i).trans ((up_n (by omega)).trans (rfl)))) (Nat.le_refl _)) (Nat.le_refl _)
          · exact absurd c59 (by decide +kernel)
        · exact absurd c36 (nI_ne1 (by have := hI.1 6 (by decide +kernel); omega))
      · exact absurd c26 (by decide +kernel)
theorem q_told {h : AH} {d bc bs n : Nat} {ρ : Nat → Nat → Int32} {τ : Nat → Int32} {σ : CS} {th : Int32} (hM : MM h ρ τ σ th) {k X : Nat} (hk : k < 6) (ov : wO σ k < 11) (hX : X ≤ 3) (hn : 158 ≤ n) (hd : 2 ≤ d) (h1 : 1 ≤ bc) (h2 : 12 ≤ bs) : SM SR0 MX5_told d bc bs [.ref 135, .int (nI k), .int (nI X)] h n (TP h n (owV σ k (nI X))) := by
  refine sm_of pn_OverwalksModel rfl (Nat.le_of_ble_eq_true rfl) ?_
  rcases hm : (σ.2.2.2.2.1 k).1 with _ | _
  · refine sw_aload_n (pc' := 1) rfl dX5_told_0 rfl ?_
    refine sw_getf (ci := 6) (k := 6) (pc' := 4) rfl dX5_told_1 (by decide +kernel) w_1119 hM.ob rfl ?_
    refine sw_iload_n (pc' := 5) rfl dX5_told_4 rfl ?_
    refine sw_iald (j := k) (pc' := 6) rfl dX5_told_5 hM.sh rfl (by omega) (by decide +kernel) ?_
    rw [shF_n (k := k) (by omega) hm]
    refine sw_iconst (pc' := 7) (v := (-1)) rfl dX5_told_6 (by decide +kernel) ?_
    refine sw_icmp_ne (pc' := 10) (tgt := 12) rfl dX5_told_7 (by decide +kernel) (fun c7 => ?_) (fun c7 => ?_)
    · exact absurd c7 (by decide +kernel)
    · refine sw_iconst (pc' := 11) (v := (-1)) rfl dX5_told_10 (by decide +kernel) ?_
      refine sw_ret (v := some _) ⟨dX5_told_11, _, rfl, rfl⟩ ?_
      rw [owV_0 hm]
      exact ⟨rfl, Nat.le_refl _, fun _ _ => rfl⟩
  · refine sw_aload_n (pc' := 1) rfl dX5_told_0 rfl ?_
    refine sw_getf (ci := 6) (k := 6) (pc' := 4) rfl dX5_told_1 (by decide +kernel) w_1119 hM.ob rfl ?_
    refine sw_iload_n (pc' := 5) rfl dX5_told_4 rfl ?_
    refine sw_iald (j := k) (pc' := 6) rfl dX5_told_5 hM.sh rfl (by omega) (by decide +kernel) ?_
    rw [shF_m (k := k) (by omega) hm]
    refine sw_iconst (pc' := 7) (v := (-1)) rfl dX5_told_6 (by decide +kernel) ?_
    refine sw_icmp_ne (pc' := 10) (tgt := 12) rfl dX5_told_7 (by decide +kernel) (fun c7 => ?_) (fun c7 => ?_)
    · refine sw_iconst (pc' := 13) (v := 4) rfl dX5_told_12 (by decide +kernel) ?_
      refine sw_newa (t := 0) (len := 4) (pc' := 15) rfl dX5_told_13 (by decide +kernel) w_101 rfl (by omega) (by omega) (by omega) ?_
      refine sw_nm (fun g1 eg1 => ?_)
      have zg1 := (congrFun eg1 n).trans (up_s (h := h) (i := n))
      refine sw_dup (pc' := 16) rfl dX5_told_15 rfl ?_
      refine sw_iconst (pc' := 17) (v := 0) rfl dX5_told_16 (by decide +kernel) ?_
      refine sw_aload_n (pc' := 18) rfl dX5_told_17 rfl ?_
      refine sw_getf (ci := 6) (k := 6) (pc' := 21) rfl dX5_told_18 (by decide +kernel) w_1119 (((congrFun eg1 135).trans (up_n (by omega))).trans hM.ob) rfl ?_
      refine sw_iload_n (pc' := 22) rfl dX5_told_21 rfl ?_
      refine sw_iald (j := k) (pc' := 23) rfl dX5_told_22 (((congrFun eg1 150).trans (up_n (by omega))).trans hM.sh) rfl (by omega) (by decide +kernel) ?_
      rw [shF_m (k := k) (by omega) hm]
      refine sw_iast (j := 0) (pc' := 24) rfl dX5_told_23 zg1 (by show 100 ≤ _; omega) rfl (by omega) (by omega) ?_
      refine sw_nm (fun g2 eg2 => ?_)
      have zg2 := (congrFun eg2 n).trans (up_s (h := g1) (i := n))
      refine sw_dup (pc' := 25) rfl dX5_told_24 rfl ?_
      refine sw_iconst (pc' := 26) (v := 1) rfl dX5_told_25 (by decide +kernel) ?_
      refine sw_aload_n (pc' := 27) rfl dX5_told_26 rfl ?_
      refine sw_getf (ci := 6) (k := 7) (pc' := 30) rfl dX5_told_27 (by decide +kernel) w_1120 (((congrFun eg2 135).trans (up_n (by omega))).trans (((congrFun eg1 135).trans (up_n (by omega))).trans hM.ob)) rfl ?_
      refine sw_iload_n (pc' := 31) rfl dX5_told_30 rfl ?_
      refine sw_iald (j := k) (pc' := 32) rfl dX5_told_31 (((congrFun eg2 151).trans (up_n (by omega))).trans (((congrFun eg1 151).trans (up_n (by omega))).trans hM.hw)) rfl (by omega) (by decide +kernel) ?_
      refine sw_iast (j := 1) (pc' := 33) rfl dX5_told_32 zg2 (by show 100 ≤ _; omega) rfl (by omega) (by omega) ?_
      refine sw_nm (fun g3 eg3 => ?_)
      have zg3 := (congrFun eg3 n).trans (up_s (h := g2) (i := n))
      refine sw_dup (pc' := 34) rfl dX5_told_33 rfl ?_
      refine sw_iconst (pc' := 35) (v := 2) rfl dX5_told_34 (by decide +kernel) ?_
      refine sw_aload_n (pc' := 36) rfl dX5_told_35 rfl ?_
      refine sw_getf (ci := 6) (k := 8) (pc' := 39) rfl dX5_told_36 (by decide +kernel) w_1121 (((congrFun eg3 135).trans (up_n (by omega))).trans (((congrFun eg2 135).trans (up_n (by omega))).trans (((congrFun eg1 135).trans (up_n (by omega))).trans hM.ob))) rfl ?_
      refine sw_iload_n (pc' := 40) rfl dX5_told_39 rfl ?_
      refine sw_iald (j := k) (pc' := 41) rfl dX5_told_40 (((congrFun eg3 152).trans (up_n (by omega))).trans (((congrFun eg2 152).trans (up_n (by omega))).trans (((congrFun eg1 152).trans (up_n (by omega))).trans hM.gi))) rfl (by omega) (by decide +kernel) ?_
      refine sw_iast (j := 2) (pc' := 42) rfl dX5_told_41 zg3 (by show 100 ≤ _; omega) rfl (by omega) (by omega) ?_
      refine sw_nm (fun g4 eg4 => ?_)
      have zg4 := (congrFun eg4 n).trans (up_s (h := g3) (i := n))
      refine sw_dup (pc' := 43) rfl dX5_told_42 rfl ?_
      refine sw_iconst (pc' := 44) (v := 3) rfl dX5_told_43 (by decide +kernel) ?_
      refine sw_aload_n (pc' := 45) rfl dX5_told_44 rfl ?_
      refine sw_iload_n (pc' := 46) rfl dX5_told_45 rfl ?_
      have gM : MM g4 ρ τ σ th := hM.fr (fun i h1 h2 => (congrFun eg4 i).trans ((up_n (by omega)).trans ((congrFun eg3 i).trans ((up_n (by omega)).trans ((congrFun eg2 i).trans ((up_n (by omega)).trans ((congrFun eg1 i).trans ((up_n (by omega)).trans (rfl)))))))))
      refine sw_V (M' := MX5_isStale) (d' := d - 1) (bc' := 0) (bs' := 0) (ci := 6) (as := [_]) dX5_told_46 w_1317 ok_X5_isStale (q_isStale gM hk hm ov) gM.ob rfl (by omega) (Nat.le_of_ble_eq_true rfl) (Nat.zero_le _) (Nat.zero_le _) (fun E h' n' _ z => det_x z) (det_k ?_)
      refine sw_S (M' := MX5_one) (d' := d - 1) (bc' := 0) (bs' := 0) (as := [_]) dX5_told_49 w_1196 ok_X5_one (q_one (q := wSt σ k)) (by omega) (Nat.le_of_ble_eq_true rfl) (Nat.zero_le _) (Nat.zero_le _) (fun E h' n' _ z => det_x z) (det_k ?_)
      refine sw_iast (j := 3) (pc' := 53) rfl dX5_told_52 zg4 (by show 100 ≤ _; omega) rfl (by omega) (by omega) ?_
      refine sw_nm (fun g5 eg5 => ?_)
      have zg5 := (congrFun eg5 n).trans (up_s (h := g4) (i := n))
      refine sw_astore_n (pc' := 54) (lv' := [(3, _), (0, _), (1, _), (2, _)]) rfl dX5_told_53 (by decide +kernel) rfl ?_
      refine sw_aload_n (pc' := 55) rfl dX5_told_54 rfl ?_
      refine sw_iload_n (pc' := 56) rfl dX5_told_55 rfl ?_
      refine sw_iald (j := X) (pc' := 57) rfl dX5_told_56 zg5 rfl (by omega) (by omega) ?_
      refine sw_ret (v := some _) ⟨dX5_told_57, _, rfl, rfl⟩ ?_
      exact ⟨by rw [owV_1 hm hX], Nat.le_succ _, fun i q => (congrFun eg5 i).trans ((up_n (by omega)).trans ((congrFun eg4 i).trans ((up_n (by omega)).trans ((congrFun eg3 i).trans ((up_n (by omega)).trans ((congrFun eg2 i).trans ((up_n (by omega)).trans ((congrFun eg1 i).trans ((up_n (by omega)).trans (rfl))))))))))⟩
    · exact absurd c7 (nI_ne1 (by omega))
theorem q_ofWalk {h : AH} {d bc bs n : Nat} {σ : CS} {th : Int32} {a x : Int32} (hR : RMo h σ th) (hI : Iv σ) (hn : 159 ≤ n) (hd : 8 ≤ d) (h1 : 1 ≤ bc) (h2 : 12 ≤ bs)  : SM SR0 MX5_ofWalk d bc bs [.ref 135, .int a, .int x] h n (PM h n (tc sI sA) (opOfWalk σ a x)) := by
  obtain ⟨ρ, τ, hM, hA⟩ := hR
  obtain ⟨G0, hG0, eG0⟩ := hM.out
  refine sm_of pn_OverwalksModel rfl (Nat.le_of_ble_eq_true rfl) ?_
  rcases idxN 6 (by decide +kernel) a with qk1 | ⟨k, hk, rfl⟩
  · refine sw_aload_n (pc' := 1) rfl dX5_ofWalk_0 rfl ?_
    refine sw_iload_n (pc' := 2) rfl dX5_ofWalk_1 rfl ?_
    refine sw_S (M' := MX5_isNoWalk) (d' := d - 1) (bc' := 0) (bs' := 0) (as := [_]) dX5_ofWalk_2 w_1306 ok_X5_isNoWalk (q_isNoWalk (by omega)) (by omega) (Nat.le_of_ble_eq_true rfl) (Nat.zero_le _) (Nat.zero_le _) (fun E h' n' _ z => det_x z) (det_k ?_)
    rw [show inB a 0 5 = false from no_x (N := 5) (by decide +kernel) qk1]
    show SW _ _ _ _ _ _ _ (.int 1 :: _) _ _ _
    refine sw_iload_n (pc' := 6) rfl dX5_ofWalk_5 rfl ?_
    refine sw_iconst (pc' := 7) (v := 0) rfl dX5_ofWalk_6 (by decide +kernel) ?_
    refine sw_iconst (pc' := 8) (v := 3) rfl dX5_ofWalk_7 (by decide +kernel) ?_
    refine sw_S (M' := MX5_isIn) (d' := d - 1) (bc' := 0) (bs' := 0) (as := [_, _, _]) dX5_ofWalk_8 w_1168 ok_X5_isIn (q_isIn) (by omega) (Nat.le_of_ble_eq_true rfl) (Nat.zero_le _) (Nat.zero_le _) (fun E h' n' _ z => det_x z) (det_k ?_)
    refine sw_if_ne (pc' := 14) (tgt := 18) rfl dX5_ofWalk_11 (by decide +kernel) (fun c11 => ?_) (fun c11 => ?_)
    · refine sw_iconst (pc' := 19) (v := 0) rfl dX5_ofWalk_18 (by decide +kernel) ?_
      refine sw_V (M' := MX5_isStopped_) (d' := d - 1) (bc' := 0) (bs' := 0) (ci := 6) (as := [_, _]) dX5_ofWalk_19 w_1215 ok_X5_isStopped_ (q_isStopped2 (a := true) (b := false) hM hA (by omega)) hM.ob rfl (by omega) (Nat.le_of_ble_eq_true rfl) (Nat.zero_le _) (Nat.zero_le _) (fun E h' n' _ z => rp_x z) (rp_k (fun p19 p19ρ p19τ p19M p19A p19F => ?_))
      obtain ⟨Gp19, hGp19, eGp19⟩ := p19M.out
      show SW _ _ _ _ _ _ _ (.int 1 :: _) _ _ _
      refine sw_if_eq (pc' := 25) (tgt := 29) rfl dX5_ofWalk_22 (by decide +kernel) (fun c22 => ?_) (fun c22 => ?_)
      · exact absurd c22 (by decide +kernel)
      · refine sw_iconst (pc' := 26) (v := 0) rfl dX5_ofWalk_25 (by decide +kernel) ?_
        refine sw_goto (tgt := 35) dX5_ofWalk_26 (by decide +kernel) ?_
        refine sw_ret (v := some _) ⟨dX5_ofWalk_35, _, rfl, rfl⟩ ?_
        rw [opOfWalk, onWk_x qk1]
        exact pm_x tc_1 p19M p19A p19F (Nat.le_refl _)
    · refine sw_iconst (pc' := 15) (v := 1) rfl dX5_ofWalk_14 (by decide +kernel) ?_
      refine sw_goto (tgt := 19) dX5_ofWalk_15 (by decide +kernel) ?_
      refine sw_V (M' := MX5_isStopped_) (d' := d - 1) (bc' := 0) (bs' := 0) (ci := 6) (as := [_, _]) dX5_ofWalk_19 w_1215 ok_X5_isStopped_ (q_isStopped2 (a := true) (b := true) hM hA (by omega)) hM.ob rfl (by omega) (Nat.le_of_ble_eq_true rfl) (Nat.zero_le _) (Nat.zero_le _) (fun E h' n' _ z => rp_x z) (rp_k (fun p19 p19ρ p19τ p19M p19A p19F => ?_))
      obtain ⟨Gp19, hGp19, eGp19⟩ := p19M.out
      show SW _ _ _ _ _ _ _ (.int 1 :: _) _ _ _
      refine sw_if_eq (pc' := 25) (tgt := 29) rfl dX5_ofWalk_22 (by decide +kernel) (fun c22 => ?_) (fun c22 => ?_)
      · exact absurd c22 (by decide +kernel)
      · refine sw_iconst (pc' := 26) (v := 0) rfl dX5_ofWalk_25 (by decide +kernel) ?_
        refine sw_goto (tgt := 35) dX5_ofWalk_26 (by decide +kernel) ?_
        refine sw_ret (v := some _) ⟨dX5_ofWalk_35, _, rfl, rfl⟩ ?_
        rw [opOfWalk, onWk_x qk1]
        exact pm_x tc_1 p19M p19A p19F (Nat.le_refl _)
  have ovk := hI.2.2.2.2.2.2.1 k hk
  have hcwk := hI.1 _ ovk
  rcases idxR 3 (by decide +kernel) x with qX | ⟨X, hX, rfl⟩
  · refine sw_aload_n (pc' := 1) rfl dX5_ofWalk_0 rfl ?_
    refine sw_iload_n (pc' := 2) rfl dX5_ofWalk_1 rfl ?_
    refine sw_S (M' := MX5_isNoWalk) (d' := d - 1) (bc' := 0) (bs' := 0) (as := [_]) dX5_ofWalk_2 w_1306 ok_X5_isNoWalk (q_isNoWalk (by omega)) (by omega) (Nat.le_of_ble_eq_true rfl) (Nat.zero_le _) (Nat.zero_le _) (fun E h' n' _ z => det_x z) (det_k ?_)
    rw [show inB (nI k) 0 5 = true from inB_k (N := 5) (by omega) (by decide +kernel)]
    show SW _ _ _ _ _ _ _ (.int 0 :: _) _ _ _
    refine sw_iload_n (pc' := 6) rfl dX5_ofWalk_5 rfl ?_
    refine sw_iconst (pc' := 7) (v := 0) rfl dX5_ofWalk_6 (by decide +kernel) ?_
    refine sw_iconst (pc' := 8) (v := 3) rfl dX5_ofWalk_7 (by decide +kernel) ?_
    refine sw_S (M' := MX5_isIn) (d' := d - 1) (bc' := 0) (bs' := 0) (as := [_, _, _]) dX5_ofWalk_8 w_1168 ok_X5_isIn (q_isIn) (by omega) (Nat.le_of_ble_eq_true rfl) (Nat.zero_le _) (Nat.zero_le _) (fun E h' n' _ z => det_x z) (det_k ?_)
    rw [show inB x 0 3 = false from inB_x qX]
    show SW _ _ _ _ _ _ _ (.int 0 :: _) _ _ _
    refine sw_if_ne (pc' := 14) (tgt := 18) rfl dX5_ofWalk_11 (by decide +kernel) (fun c11 => ?_) (fun c11 => ?_)
    · exact absurd c11 (by decide +kernel)
    · refine sw_iconst (pc' := 15) (v := 1) rfl dX5_ofWalk_14 (by decide +kernel) ?_
      refine sw_goto (tgt := 19) dX5_ofWalk_15 (by decide +kernel) ?_
      refine sw_V (M' := MX5_isStopped_) (d' := d - 1) (bc' := 0) (bs' := 0) (ci := 6) (as := [_, _]) dX5_ofWalk_19 w_1215 ok_X5_isStopped_ (q_isStopped2 (a := false) (b := true) hM hA (by omega)) hM.ob rfl (by omega) (Nat.le_of_ble_eq_true rfl) (Nat.zero_le _) (Nat.zero_le _) (fun E h' n' _ z => rp_x z) (rp_k (fun p19 p19ρ p19τ p19M p19A p19F => ?_))
      obtain ⟨Gp19, hGp19, eGp19⟩ := p19M.out
      show SW _ _ _ _ _ _ _ (.int 1 :: _) _ _ _
      refine sw_if_eq (pc' := 25) (tgt := 29) rfl dX5_ofWalk_22 (by decide +kernel) (fun c22 => ?_) (fun c22 => ?_)
      · exact absurd c22 (by decide +kernel)
      · refine sw_iconst (pc' := 26) (v := 0) rfl dX5_ofWalk_25 (by decide +kernel) ?_
        refine sw_goto (tgt := 35) dX5_ofWalk_26 (by decide +kernel) ?_
        refine sw_ret (v := some _) ⟨dX5_ofWalk_35, _, rfl, rfl⟩ ?_
        rw [opOfWalk, onWk_k hk, if_pos (show x < 0 ∨ 3 < x from qX)]
        exact pm_x (tc_2 sAI) p19M p19A p19F (Nat.le_refl _)
  refine sw_aload_n (pc' := 1) rfl dX5_ofWalk_0 rfl ?_
  refine sw_iload_n (pc' := 2) rfl dX5_ofWalk_1 rfl ?_
  refine sw_S (M' := MX5_isNoWalk) (d' := d - 1) (bc' := 0) (bs' := 0) (as := [_]) dX5_ofWalk_2 w_1306 ok_X5_isNoWalk (q_isNoWalk (by omega)) (by omega) (Nat.le_of_ble_eq_true rfl) (Nat.zero_le _) (Nat.zero_le _) (fun E h' n' _ z => det_x z) (det_k ?_)
  rw [show inB (nI k) 0 5 = true from inB_k (N := 5) (by omega) (by decide +kernel)]
  show SW _ _ _ _ _ _ _ (.int 0 :: _) _ _ _
  refine sw_iload_n (pc' := 6) rfl dX5_ofWalk_5 rfl ?_
  refine sw_iconst (pc' := 7) (v := 0) rfl dX5_ofWalk_6 (by decide +kernel) ?_
  refine sw_iconst (pc' := 8) (v := 3) rfl dX5_ofWalk_7 (by decide +kernel) ?_
  refine sw_S (M' := MX5_isIn) (d' := d - 1) (bc' := 0) (bs' := 0) (as := [_, _, _]) dX5_ofWalk_8 w_1168 ok_X5_isIn (q_isIn) (by omega) (Nat.le_of_ble_eq_true rfl) (Nat.zero_le _) (Nat.zero_le _) (fun E h' n' _ z => det_x z) (det_k ?_)
  rw [show inB (nI X) 0 3 = true from inB_k (N := 3) hX (by decide +kernel)]
  show SW _ _ _ _ _ _ _ (.int 1 :: _) _ _ _
  refine sw_if_ne (pc' := 14) (tgt := 18) rfl dX5_ofWalk_11 (by decide +kernel) (fun c11 => ?_) (fun c11 => ?_)
  · refine sw_iconst (pc' := 19) (v := 0) rfl dX5_ofWalk_18 (by decide +kernel) ?_
    refine sw_V (M' := MX5_isStopped_) (d' := d - 1) (bc' := 0) (bs' := 0) (ci := 6) (as := [_, _]) dX5_ofWalk_19 w_1215 ok_X5_isStopped_ (q_isStopped2 (a := false) (b := false) hM hA (by omega)) hM.ob rfl (by omega) (Nat.le_of_ble_eq_true rfl) (Nat.zero_le _) (Nat.zero_le _) (fun E h' n' _ z => rp_x z) (rp_k (fun p19 p19ρ p19τ p19M p19A p19F => ?_))
    obtain ⟨Gp19, hGp19, eGp19⟩ := p19M.out
    show SW _ _ _ _ _ _ _ (.int 0 :: _) _ _ _
    refine sw_if_eq (pc' := 25) (tgt := 29) rfl dX5_ofWalk_22 (by decide +kernel) (fun c22 => ?_) (fun c22 => ?_)
    · refine sw_aload_n (pc' := 30) rfl dX5_ofWalk_29 rfl ?_
      refine sw_iload_n (pc' := 31) rfl dX5_ofWalk_30 rfl ?_
      refine sw_iload_n (pc' := 32) rfl dX5_ofWalk_31 rfl ?_
      refine sw_V (M' := MX5_told) (d' := d - 1) (bc' := 1) (bs' := 12) (ci := 6) (as := [_, _]) dX5_ofWalk_32 w_1459 ok_X5_told (q_told p19M hk ovk hX (by omega) (by omega) (by omega) (by omega)) p19M.ob rfl (by omega) (Nat.le_of_ble_eq_true rfl) (by omega) (by omega) (fun E h' n' _ z => tp_x z) (tp_k (fun p32 p32n p32k p32F => ?_))
      have p32M := p19M.fr (fun i h1 h2 => p32F i (by omega))
      refine sw_ret (v := some _) ⟨dX5_ofWalk_35, _, rfl, rfl⟩ ?_
      rw [opOfWalk, onWk_k hk, if_neg (show ¬ (nI X < 0 ∨ 3 < nI X) from nin (N := 3) (by decide +kernel) hX), opOfWalk_k hX]
      exact pm_k p32M p19A (p19F.tr (fun i _ q => p32F i q) (Nat.le_refl _)) p32k
    · exact absurd c22 (by decide +kernel)
  · exact absurd c11 (by decide +kernel)
theorem ql_house1 {h : AH} {d bc bs n X : Nat} {ρ : Nat → Nat → Int32} {τ : Nat → Int32} {σ : CS} {th : Int32} {Post : ARes → AH → Nat → Prop} (hM : MM h ρ τ σ th) (hA : AG ρ τ σ) (hI : Iv σ) (hd : 2 ≤ d) (m : Nat) : ∀ (j : Nat) (v w : Int32), j + m = 11 → SW SR0 MX5_houseTold d bc bs 47 [(6, .int (nI 11)), (3, .int (ctN (fun j => nI (coN (σ.1 j) 100 0 (σ.2.1 j))) j m w)), (2, .int (ctN (fun j => nI (σ.2.1 j)) j m v)), (5, .int 0), (4, .int 0), (0, .ref 135), (1, .int (nI X))] [] h n Post → SW SR0 MX5_houseTold d bc bs 13 [(6, .int (nI j)), (3, .int w), (2, .int v), (5, .int 0), (4, .int 0), (0, .ref 135), (1, .int (nI X))] [] h n Post := by
  obtain ⟨G0, hG0, eG0⟩ := hM.out
  induction m with
  | zero =>
    intro j v w hj fq
    have hj11 : j = 11 := by omega
    subst hj11
    refine sw_iload (pc' := 15) rfl dX5_houseTold_13 rfl ?_
    refine sw_bipush (pc' := 17) (v := 11) rfl dX5_houseTold_15 (by decide +kernel) ?_
    refine sw_icmp_ge (pc' := 20) (tgt := 47) rfl dX5_houseTold_17 (by decide +kernel) (fun c17 => ?_) (fun c17 => ?_)
    · exact fq
    · exact absurd (Int32.le_refl (nI 11)) c17
  | succ m ih =>
    intro j v w hj fq
    refine sw_iload (pc' := 15) rfl dX5_houseTold_13 rfl ?_
    refine sw_bipush (pc' := 17) (v := 11) rfl dX5_houseTold_15 (by decide +kernel) ?_
    refine sw_icmp_ge (pc' := 20) (tgt := 47) rfl dX5_houseTold_17 (by decide +kernel) (fun c17 => ?_) (fun c17 => ?_)
    · exact absurd c17 (nI_ge (b := 11) (by omega) (by decide +kernel))
    · refine sw_iload_n (pc' := 21) rfl dX5_houseTold_20 rfl ?_
      refine sw_aload_n (pc' := 22) rfl dX5_houseTold_21 rfl ?_
      refine sw_getf (ci := 6) (k := 4) (pc' := 25) rfl dX5_houseTold_22 (by decide +kernel) w_1117 hM.ob rfl ?_
      refine sw_iload (pc' := 27) rfl dX5_houseTold_25 rfl ?_
      refine sw_iald (j := j) (pc' := 28) rfl dX5_houseTold_27 hM.sz rfl (by omega) (by decide +kernel) ?_
      refine sw_iadd (pc' := 29) rfl dX5_houseTold_28 ?_
      refine sw_istore_n (pc' := 30) (lv' := [(2, _), (6, _), (3, _), (5, _), (4, _), (0, _), (1, _)]) rfl dX5_houseTold_29 (by decide +kernel) rfl ?_
      refine sw_iload_n (pc' := 31) rfl dX5_houseTold_30 rfl ?_
      refine sw_aload_n (pc' := 32) rfl dX5_houseTold_31 rfl ?_
      refine sw_iload (pc' := 34) rfl dX5_houseTold_32 rfl ?_
      refine sw_bipush (pc' := 36) (v := 100) rfl dX5_houseTold_34 (by decide +kernel) ?_
      refine sw_V (M' := MX5_count) (d' := d - 1) (bc' := 0) (bs' := 0) (ci := 6) (as := [_, _]) dX5_houseTold_36 w_1192 ok_X5_count (q_count hM hA (k := j) (by omega) (hI.1 j (by omega)) (by omega)) hM.ob rfl (by omega) (Nat.le_of_ble_eq_true rfl) (Nat.zero_le _) (Nat.zero_le _) (fun E h' n' _ z => det_x z) (det_k ?_)
      refine sw_iadd (pc' := 40) rfl dX5_houseTold_39 ?_
      refine sw_istore_n (pc' := 41) (lv' := [(3, _), (2, _), (6, _), (5, _), (4, _), (0, _), (1, _)]) rfl dX5_houseTold_40 (by decide +kernel) rfl ?_
      refine sw_iinc (pc' := 44) (lv' := [(6, _), (3, _), (2, _), (5, _), (4, _), (0, _), (1, _)]) (v := nI (j + 1)) rfl dX5_houseTold_41 rfl (nI_1 j) (by decide +kernel) rfl ?_
      refine sw_goto (tgt := 13) dX5_houseTold_44 (by decide +kernel) ?_
      exact ih (j + 1) _ _ (by omega) fq
theorem ql_house2 {h : AH} {d bc bs n X : Nat} {ρ : Nat → Nat → Int32} {τ : Nat → Int32} {σ : CS} {th : Int32} {a b : Int32} {Post : ARes → AH → Nat → Prop} (hM : MM h ρ τ σ th) (hA : AG ρ τ σ) (hI : Iv σ) (hd : 2 ≤ d) (m : Nat) : ∀ (j : Nat) (v w : Int32), j + m = 6 → SW SR0 MX5_houseTold d bc bs 120 [(6, .int (nI 6)), (5, .int (ctN (fun j => bI ((σ.2.2.2.2.1 j).1 && wSt σ j)) j m w)), (4, .int (ctN (fun j => bI (σ.2.2.2.2.1 j).1) j m v)), (3, .int b), (2, .int a), (0, .ref 135), (1, .int (nI X))] [] h n Post → SW SR0 MX5_houseTold d bc bs 50 [(6, .int (nI j)), (5, .int w), (4, .int v), (3, .int b), (2, .int a), (0, .ref 135), (1, .int (nI X))] [] h n Post := by
  obtain ⟨G0, hG0, eG0⟩ := hM.out
  induction m with
  | zero =>
    intro j v w hj fq
    have hj6 : j = 6 := by omega
    subst hj6
    refine sw_iload (pc' := 52) rfl dX5_houseTold_50 rfl ?_
    refine sw_bipush (pc' := 54) (v := 6) rfl dX5_houseTold_52 (by decide +kernel) ?_
    refine sw_icmp_ge (pc' := 57) (tgt := 120) rfl dX5_houseTold_54 (by decide +kernel) (fun c54 => ?_) (fun c54 => ?_)
    · exact fq
    · exact absurd (Int32.le_refl (nI 6)) c54
  | succ m ih =>
    intro j v w hj fq
    rw [ctN, ctN] at fq
    rcases hm : (σ.2.2.2.2.1 j).1 with _ | _
    · refine sw_iload (pc' := 52) rfl dX5_houseTold_50 rfl ?_
      refine sw_bipush (pc' := 54) (v := 6) rfl dX5_houseTold_52 (by decide +kernel) ?_
      refine sw_icmp_ge (pc' := 57) (tgt := 120) rfl dX5_houseTold_54 (by decide +kernel) (fun c54 => ?_) (fun c54 => ?_)
      · exact absurd c54 (nI_ge (b := 6) (by omega) (by decide +kernel))
      · refine sw_iload (pc' := 59) rfl dX5_houseTold_57 rfl ?_
        refine sw_aload_n (pc' := 60) rfl dX5_houseTold_59 rfl ?_
        refine sw_getf (ci := 6) (k := 6) (pc' := 63) rfl dX5_houseTold_60 (by decide +kernel) w_1119 hM.ob rfl ?_
        refine sw_iload (pc' := 65) rfl dX5_houseTold_63 rfl ?_
        refine sw_iald (j := j) (pc' := 66) rfl dX5_houseTold_65 hM.sh rfl (by omega) (by decide +kernel) ?_
        rw [shF_n (k := j) (by omega) hm]
        refine sw_iconst (pc' := 67) (v := (-1)) rfl dX5_houseTold_66 (by decide +kernel) ?_
        refine sw_icmp_eq (pc' := 70) (tgt := 74) rfl dX5_houseTold_67 (by decide +kernel) (fun c67 => ?_) (fun c67 => ?_)
        · refine sw_iconst (pc' := 75) (v := 0) rfl dX5_houseTold_74 (by decide +kernel) ?_
          refine sw_S (M' := MX5_one) (d' := d - 1) (bc' := 0) (bs' := 0) (as := [_]) dX5_houseTold_75 w_1196 ok_X5_one (q_one (q := false)) (by omega) (Nat.le_of_ble_eq_true rfl) (Nat.zero_le _) (Nat.zero_le _) (fun E h' n' _ z => det_x z) (det_k ?_)
          refine sw_iadd (pc' := 79) rfl dX5_houseTold_78 ?_
          refine sw_istore (pc' := 81) (lv' := [(4, _), (6, _), (5, _), (3, _), (2, _), (0, _), (1, _)]) rfl dX5_houseTold_79 (by decide +kernel) rfl ?_
          refine sw_iload (pc' := 83) rfl dX5_houseTold_81 rfl ?_
          refine sw_aload_n (pc' := 84) rfl dX5_houseTold_83 rfl ?_
          refine sw_getf (ci := 6) (k := 6) (pc' := 87) rfl dX5_houseTold_84 (by decide +kernel) w_1119 hM.ob rfl ?_
          refine sw_iload (pc' := 89) rfl dX5_houseTold_87 rfl ?_
          refine sw_iald (j := j) (pc' := 90) rfl dX5_houseTold_89 hM.sh rfl (by omega) (by decide +kernel) ?_
          rw [shF_n (k := j) (by omega) hm]
          refine sw_iconst (pc' := 91) (v := (-1)) rfl dX5_houseTold_90 (by decide +kernel) ?_
          refine sw_icmp_eq (pc' := 94) (tgt := 107) rfl dX5_houseTold_91 (by decide +kernel) (fun c91 => ?_) (fun c91 => ?_)
          · refine sw_iconst (pc' := 108) (v := 0) rfl dX5_houseTold_107 (by decide +kernel) ?_
            refine sw_S (M' := MX5_one) (d' := d - 1) (bc' := 0) (bs' := 0) (as := [_]) dX5_houseTold_108 w_1196 ok_X5_one (q_one (q := false)) (by omega) (Nat.le_of_ble_eq_true rfl) (Nat.zero_le _) (Nat.zero_le _) (fun E h' n' _ z => det_x z) (det_k ?_)
            refine sw_iadd (pc' := 112) rfl dX5_houseTold_111 ?_
            refine sw_istore (pc' := 114) (lv' := [(5, _), (4, _), (6, _), (3, _), (2, _), (0, _), (1, _)]) rfl dX5_houseTold_112 (by decide +kernel) rfl ?_
            refine sw_iinc (pc' := 117) (lv' := [(6, _), (5, _), (4, _), (3, _), (2, _), (0, _), (1, _)]) (v := nI (j + 1)) rfl dX5_houseTold_114 rfl (nI_1 j) (by decide +kernel) rfl ?_
            refine sw_goto (tgt := 50) dX5_houseTold_117 (by decide +kernel) ?_
            rw [hm] at fq
            exact ih (j + 1) _ _ (by omega) fq
          · exact absurd c91 (by decide +kernel)
        · exact absurd c67 (by decide +kernel)
    · refine sw_iload (pc' := 52) rfl dX5_houseTold_50 rfl ?_
      refine sw_bipush (pc' := 54) (v := 6) rfl dX5_houseTold_52 (by decide +kernel) ?_
      refine sw_icmp_ge (pc' := 57) (tgt := 120) rfl dX5_houseTold_54 (by decide +kernel) (fun c54 => ?_) (fun c54 => ?_)
      · exact absurd c54 (nI_ge (b := 6) (by omega) (by decide +kernel))
      · refine sw_iload (pc' := 59) rfl dX5_houseTold_57 rfl ?_
        refine sw_aload_n (pc' := 60) rfl dX5_houseTold_59 rfl ?_
        refine sw_getf (ci := 6) (k := 6) (pc' := 63) rfl dX5_houseTold_60 (by decide +kernel) w_1119 hM.ob rfl ?_
        refine sw_iload (pc' := 65) rfl dX5_houseTold_63 rfl ?_
        refine sw_iald (j := j) (pc' := 66) rfl dX5_houseTold_65 hM.sh rfl (by omega) (by decide +kernel) ?_
        rw [shF_m (k := j) (by omega) hm]
        refine sw_iconst (pc' := 67) (v := (-1)) rfl dX5_houseTold_66 (by decide +kernel) ?_
        refine sw_icmp_eq (pc' := 70) (tgt := 74) rfl dX5_houseTold_67 (by decide +kernel) (fun c67 => ?_) (fun c67 => ?_)
        · exact absurd c67 (nI_ne1 (by have := hI.2.2.2.2.2.2.1 j (by omega); omega))
        · refine sw_iconst (pc' := 71) (v := 1) rfl dX5_houseTold_70 (by decide +kernel) ?_
          refine sw_goto (tgt := 75) dX5_houseTold_71 (by decide +kernel) ?_
          refine sw_S (M' := MX5_one) (d' := d - 1) (bc' := 0) (bs' := 0) (as := [_]) dX5_houseTold_75 w_1196 ok_X5_one (q_one (q := true)) (by omega) (Nat.le_of_ble_eq_true rfl) (Nat.zero_le _) (Nat.zero_le _) (fun E h' n' _ z => det_x z) (det_k ?_)
          refine sw_iadd (pc' := 79) rfl dX5_houseTold_78 ?_
          refine sw_istore (pc' := 81) (lv' := [(4, _), (6, _), (5, _), (3, _), (2, _), (0, _), (1, _)]) rfl dX5_houseTold_79 (by decide +kernel) rfl ?_
          refine sw_iload (pc' := 83) rfl dX5_houseTold_81 rfl ?_
          refine sw_aload_n (pc' := 84) rfl dX5_houseTold_83 rfl ?_
          refine sw_getf (ci := 6) (k := 6) (pc' := 87) rfl dX5_houseTold_84 (by decide +kernel) w_1119 hM.ob rfl ?_
          refine sw_iload (pc' := 89) rfl dX5_houseTold_87 rfl ?_
          refine sw_iald (j := j) (pc' := 90) rfl dX5_houseTold_89 hM.sh rfl (by omega) (by decide +kernel) ?_
          rw [shF_m (k := j) (by omega) hm]
          refine sw_iconst (pc' := 91) (v := (-1)) rfl dX5_houseTold_90 (by decide +kernel) ?_
          refine sw_icmp_eq (pc' := 94) (tgt := 107) rfl dX5_houseTold_91 (by decide +kernel) (fun c91 => ?_) (fun c91 => ?_)
          · exact absurd c91 (nI_ne1 (by have := hI.2.2.2.2.2.2.1 j (by omega); omega))
          · refine sw_aload_n (pc' := 95) rfl dX5_houseTold_94 rfl ?_
            refine sw_iload (pc' := 97) rfl dX5_houseTold_95 rfl ?_
            refine sw_V (M' := MX5_isStale) (d' := d - 1) (bc' := 0) (bs' := 0) (ci := 6) (as := [_]) dX5_houseTold_97 w_1317 ok_X5_isStale (q_isStale hM (k := j) (by omega) hm (hI.2.2.2.2.2.2.1 j (by omega))) hM.ob rfl (by omega) (Nat.le_of_ble_eq_true rfl) (Nat.zero_le _) (Nat.zero_le _) (fun E h' n' _ z => det_x z) (det_k ?_)
            refine sw_if_eq (pc' := 103) (tgt := 107) rfl dX5_houseTold_100 (by decide +kernel) (fun c100 => ?_) (fun c100 => ?_)
            · refine sw_iconst (pc' := 108) (v := 0) rfl dX5_houseTold_107 (by decide +kernel) ?_
              refine sw_S (M' := MX5_one) (d' := d - 1) (bc' := 0) (bs' := 0) (as := [_]) dX5_houseTold_108 w_1196 ok_X5_one (q_one (q := false)) (by omega) (Nat.le_of_ble_eq_true rfl) (Nat.zero_le _) (Nat.zero_le _) (fun E h' n' _ z => det_x z) (det_k ?_)
              refine sw_iadd (pc' := 112) rfl dX5_houseTold_111 ?_
              refine sw_istore (pc' := 114) (lv' := [(5, _), (4, _), (6, _), (3, _), (2, _), (0, _), (1, _)]) rfl dX5_houseTold_112 (by decide +kernel) rfl ?_
              refine sw_iinc (pc' := 117) (lv' := [(6, _), (5, _), (4, _), (3, _), (2, _), (0, _), (1, _)]) (v := nI (j + 1)) rfl dX5_houseTold_114 rfl (nI_1 j) (by decide +kernel) rfl ?_
              refine sw_goto (tgt := 50) dX5_houseTold_117 (by decide +kernel) ?_
              rw [hm, Bool.true_and, bI_0 c100] at fq
              exact ih (j + 1) _ _ (by omega) fq
            · refine sw_iconst (pc' := 104) (v := 1) rfl dX5_houseTold_103 (by decide +kernel) ?_
              refine sw_goto (tgt := 108) dX5_houseTold_104 (by decide +kernel) ?_
              refine sw_S (M' := MX5_one) (d' := d - 1) (bc' := 0) (bs' := 0) (as := [_]) dX5_houseTold_108 w_1196 ok_X5_one (q_one (q := true)) (by omega) (Nat.le_of_ble_eq_true rfl) (Nat.zero_le _) (Nat.zero_le _) (fun E h' n' _ z => det_x z) (det_k ?_)
              refine sw_iadd (pc' := 112) rfl dX5_houseTold_111 ?_
              refine sw_istore (pc' := 114) (lv' := [(5, _), (4, _), (6, _), (3, _), (2, _), (0, _), (1, _)]) rfl dX5_houseTold_112 (by decide +kernel) rfl ?_
              refine sw_iinc (pc' := 117) (lv' := [(6, _), (5, _), (4, _), (3, _), (2, _), (0, _), (1, _)]) (v := nI (j + 1)) rfl dX5_houseTold_114 rfl (nI_1 j) (by decide +kernel) rfl ?_
              refine sw_goto (tgt := 50) dX5_houseTold_117 (by decide +kernel) ?_
              rw [hm, Bool.true_and, bI_1 c100] at fq
              exact ih (j + 1) _ _ (by omega) fq
theorem q_houseTold {h : AH} {d bc bs n : Nat} {ρ : Nat → Nat → Int32} {τ : Nat → Int32} {σ : CS} {th : Int32} {X : Nat} (hM : MM h ρ τ σ th) (hA : AG ρ τ σ) (hI : Iv σ) (hX : X ≤ 5) (hn : 158 ≤ n) (hd : 3 ≤ d) (h1 : 1 ≤ bc) (h2 : 12 ≤ bs) : SM SR0 MX5_houseTold d bc bs [.ref 135, .int (nI X)] h n (TP h n (hoV σ (nI X))) := by
  obtain ⟨G0, hG0, eG0⟩ := hM.out
  refine sm_of pn_OverwalksModel rfl (Nat.le_of_ble_eq_true rfl) ?_
  refine sw_iconst (pc' := 1) (v := 0) rfl dX5_houseTold_0 (by decide +kernel) ?_
  refine sw_istore_n (pc' := 2) (lv' := [(2, _), (0, _), (1, _)]) rfl dX5_houseTold_1 (by decide +kernel) rfl ?_
  refine sw_iconst (pc' := 3) (v := 0) rfl dX5_houseTold_2 (by decide +kernel) ?_
  refine sw_istore_n (pc' := 4) (lv' := [(3, _), (2, _), (0, _), (1, _)]) rfl dX5_houseTold_3 (by decide +kernel) rfl ?_
  refine sw_iconst (pc' := 5) (v := 0) rfl dX5_houseTold_4 (by decide +kernel) ?_
  refine sw_istore (pc' := 7) (lv' := [(4, _), (3, _), (2, _), (0, _), (1, _)]) rfl dX5_houseTold_5 (by decide +kernel) rfl ?_
  refine sw_iconst (pc' := 8) (v := 0) rfl dX5_houseTold_7 (by decide +kernel) ?_
  refine sw_istore (pc' := 10) (lv' := [(5, _), (4, _), (3, _), (2, _), (0, _), (1, _)]) rfl dX5_houseTold_8 (by decide +kernel) rfl ?_
  refine sw_iconst (pc' := 11) (v := 0) rfl dX5_houseTold_10 (by decide +kernel) ?_
  refine sw_istore (pc' := 13) (lv' := [(6, _), (5, _), (4, _), (3, _), (2, _), (0, _), (1, _)]) rfl dX5_houseTold_11 (by decide +kernel) rfl ?_
  refine SW.pick [0, 3, 4, 1, 2, 5, 6] rfl (ql_house1 (d := d) (X := X) hM hA hI (by omega) 11 0 0 0 rfl ?_)
  show SW _ _ _ _ _ _ [(6, .int (nI 11)), (3, .int (cnN σ)), (2, .int (cnT σ)), (5, .int 0), (4, .int 0), (0, .ref 135), (1, .int (nI X))] _ _ _ _
  refine sw_iconst (pc' := 48) (v := 0) rfl dX5_houseTold_47 (by decide +kernel) ?_
  refine sw_istore (pc' := 50) (lv' := [(6, _), (3, _), (2, _), (5, _), (4, _), (0, _), (1, _)]) rfl dX5_houseTold_48 (by decide +kernel) rfl ?_
  refine SW.pick [0, 3, 4, 1, 2, 5, 6] rfl (ql_house2 (d := d) (X := X) (a := cnT σ) (b := cnN σ) hM hA hI (by omega) 6 0 0 0 rfl ?_)
  show SW _ _ _ _ _ _ [(6, .int (nI 6)), (5, .int (cnS σ)), (4, .int (cnW σ)), (3, .int (cnN σ)), (2, .int (cnT σ)), (0, .ref 135), (1, .int (nI X))] _ _ _ _
  refine sw_bipush (pc' := 122) (v := 6) rfl dX5_houseTold_120 (by decide +kernel) ?_
  refine sw_newa (t := 0) (len := 6) (pc' := 124) rfl dX5_houseTold_122 (by decide +kernel) w_101 rfl (by omega) (by omega) (by omega) ?_
  refine sw_nm (fun g1 eg1 => ?_)
  have zg1 := (congrFun eg1 n).trans (up_s (h := h) (i := n))
  refine sw_dup (pc' := 125) rfl dX5_houseTold_124 rfl ?_
  refine sw_iconst (pc' := 126) (v := 0) rfl dX5_houseTold_125 (by decide +kernel) ?_
  refine sw_iload_n (pc' := 127) rfl dX5_houseTold_126 rfl ?_
  refine sw_iast (j := 0) (pc' := 128) rfl dX5_houseTold_127 zg1 (by show 100 ≤ _; omega) rfl (by omega) (by omega) ?_
  refine sw_nm (fun g2 eg2 => ?_)
  have zg2 := (congrFun eg2 n).trans (up_s (h := g1) (i := n))
  refine sw_dup (pc' := 129) rfl dX5_houseTold_128 rfl ?_
  refine sw_iconst (pc' := 130) (v := 1) rfl dX5_houseTold_129 (by decide +kernel) ?_
  refine sw_iload_n (pc' := 131) rfl dX5_houseTold_130 rfl ?_
  refine sw_iast (j := 1) (pc' := 132) rfl dX5_houseTold_131 zg2 (by show 100 ≤ _; omega) rfl (by omega) (by omega) ?_
  refine sw_nm (fun g3 eg3 => ?_)
  have zg3 := (congrFun eg3 n).trans (up_s (h := g2) (i := n))
  refine sw_dup (pc' := 133) rfl dX5_houseTold_132 rfl ?_
  refine sw_iconst (pc' := 134) (v := 2) rfl dX5_houseTold_133 (by decide +kernel) ?_
  refine sw_iload (pc' := 136) rfl dX5_houseTold_134 rfl ?_
  refine sw_iast (j := 2) (pc' := 137) rfl dX5_houseTold_136 zg3 (by show 100 ≤ _; omega) rfl (by omega) (by omega) ?_
  refine sw_nm (fun g4 eg4 => ?_)
  have zg4 := (congrFun eg4 n).trans (up_s (h := g3) (i := n))
  refine sw_dup (pc' := 138) rfl dX5_houseTold_137 rfl ?_
  refine sw_iconst (pc' := 139) (v := 3) rfl dX5_houseTold_138 (by decide +kernel) ?_
  refine sw_iload (pc' := 141) rfl dX5_houseTold_139 rfl ?_
  refine sw_iast (j := 3) (pc' := 142) rfl dX5_houseTold_141 zg4 (by show 100 ≤ _; omega) rfl (by omega) (by omega) ?_
  refine sw_nm (fun g5 eg5 => ?_)
  have zg5 := (congrFun eg5 n).trans (up_s (h := g4) (i := n))
  refine sw_dup (pc' := 143) rfl dX5_houseTold_142 rfl ?_
  refine sw_iconst (pc' := 144) (v := 4) rfl dX5_houseTold_143 (by decide +kernel) ?_
  refine sw_aload_n (pc' := 145) rfl dX5_houseTold_144 rfl ?_
  refine sw_getf (ci := 6) (k := 2) (pc' := 148) rfl dX5_houseTold_145 (by decide +kernel) w_1115 (((congrFun eg5 135).trans (up_n (by omega))).trans (((congrFun eg4 135).trans (up_n (by omega))).trans (((congrFun eg3 135).trans (up_n (by omega))).trans (((congrFun eg2 135).trans (up_n (by omega))).trans (((congrFun eg1 135).trans (up_n (by omega))).trans hM.ob))))) rfl ?_
  refine sw_iast (j := 4) (pc' := 149) rfl dX5_houseTold_148 zg5 (by show 100 ≤ _; omega) rfl (by omega) (by omega) ?_
  refine sw_nm (fun g6 eg6 => ?_)
  have zg6 := (congrFun eg6 n).trans (up_s (h := g5) (i := n))
  refine sw_dup (pc' := 150) rfl dX5_houseTold_149 rfl ?_
  refine sw_iconst (pc' := 151) (v := 5) rfl dX5_houseTold_150 (by decide +kernel) ?_
  refine sw_aload_n (pc' := 152) rfl dX5_houseTold_151 rfl ?_
  refine sw_getf (ci := 6) (k := 1) (pc' := 155) rfl dX5_houseTold_152 (by decide +kernel) w_1114 (((congrFun eg6 135).trans (up_n (by omega))).trans (((congrFun eg5 135).trans (up_n (by omega))).trans (((congrFun eg4 135).trans (up_n (by omega))).trans (((congrFun eg3 135).trans (up_n (by omega))).trans (((congrFun eg2 135).trans (up_n (by omega))).trans (((congrFun eg1 135).trans (up_n (by omega))).trans hM.ob)))))) rfl ?_
  refine sw_iast (j := 5) (pc' := 156) rfl dX5_houseTold_155 zg6 (by show 100 ≤ _; omega) rfl (by omega) (by omega) ?_
  refine sw_nm (fun g7 eg7 => ?_)
  have zg7 := (congrFun eg7 n).trans (up_s (h := g6) (i := n))
  refine sw_astore (pc' := 158) (lv' := [(6, _), (5, _), (4, _), (3, _), (2, _), (0, _), (1, _)]) rfl dX5_houseTold_156 (by decide +kernel) rfl ?_
  refine sw_aload (pc' := 160) rfl dX5_houseTold_158 rfl ?_
  refine sw_iload_n (pc' := 161) rfl dX5_houseTold_160 rfl ?_
  refine sw_iald (j := X) (pc' := 162) rfl dX5_houseTold_161 zg7 rfl (by omega) (by omega) ?_
  refine sw_ret (v := some _) ⟨dX5_houseTold_162, _, rfl, rfl⟩ ?_
  exact ⟨by rw [hoV_k hX], Nat.le_succ _, fun i q => (congrFun eg7 i).trans ((up_n (by omega)).trans ((congrFun eg6 i).trans ((up_n (by omega)).trans ((congrFun eg5 i).trans ((up_n (by omega)).trans ((congrFun eg4 i).trans ((up_n (by omega)).trans ((congrFun eg3 i).trans ((up_n (by omega)).trans ((congrFun eg2 i).trans ((up_n (by omega)).trans ((congrFun eg1 i).trans ((up_n (by omega)).trans (rfl))))))))))))))⟩
theorem q_house {h : AH} {d bc bs n : Nat} {σ : CS} {th : Int32} {x : Int32} (hR : RMo h σ th) (hI : Iv σ) (hn : 159 ≤ n) (hd : 8 ≤ d) (h1 : 1 ≤ bc) (h2 : 12 ≤ bs)  : SM SR0 MX5_house d bc bs [.ref 135, .int x] h n (PM h n (tc sA sA) (opHouse σ x)) := by
  obtain ⟨ρ, τ, hM, hA⟩ := hR
  obtain ⟨G0, hG0, eG0⟩ := hM.out
  refine sm_of pn_OverwalksModel rfl (Nat.le_of_ble_eq_true rfl) ?_
  rcases idxR 5 (by decide +kernel) x with qX | ⟨X, hX, rfl⟩
  · refine sw_aload_n (pc' := 1) rfl dX5_house_0 rfl ?_
    refine sw_iload_n (pc' := 2) rfl dX5_house_1 rfl ?_
    refine sw_iconst (pc' := 3) (v := 0) rfl dX5_house_2 (by decide +kernel) ?_
    refine sw_iconst (pc' := 4) (v := 5) rfl dX5_house_3 (by decide +kernel) ?_
    refine sw_S (M' := MX5_isIn) (d' := d - 1) (bc' := 0) (bs' := 0) (as := [_, _, _]) dX5_house_4 w_1168 ok_X5_isIn (q_isIn) (by omega) (Nat.le_of_ble_eq_true rfl) (Nat.zero_le _) (Nat.zero_le _) (fun E h' n' _ z => det_x z) (det_k ?_)
    rw [show inB x 0 5 = false from inB_x qX]
    show SW _ _ _ _ _ _ _ (.int 0 :: _) _ _ _
    refine sw_if_ne (pc' := 10) (tgt := 14) rfl dX5_house_7 (by decide +kernel) (fun c7 => ?_) (fun c7 => ?_)
    · exact absurd c7 (by decide +kernel)
    · refine sw_iconst (pc' := 11) (v := 1) rfl dX5_house_10 (by decide +kernel) ?_
      refine sw_goto (tgt := 15) dX5_house_11 (by decide +kernel) ?_
      refine sw_V (M' := MX5_isStopped__) (d' := d - 1) (bc' := 0) (bs' := 0) (ci := 6) (as := [_]) dX5_house_15 w_1235 ok_X5_isStopped__ (q_isStopped1 (a := true) hM hA (by omega)) hM.ob rfl (by omega) (Nat.le_of_ble_eq_true rfl) (Nat.zero_le _) (Nat.zero_le _) (fun E h' n' _ z => rp_x z) (rp_k (fun p15 p15ρ p15τ p15M p15A p15F => ?_))
      obtain ⟨Gp15, hGp15, eGp15⟩ := p15M.out
      show SW _ _ _ _ _ _ _ (.int 1 :: _) _ _ _
      refine sw_if_eq (pc' := 21) (tgt := 25) rfl dX5_house_18 (by decide +kernel) (fun c18 => ?_) (fun c18 => ?_)
      · exact absurd c18 (by decide +kernel)
      · refine sw_iconst (pc' := 22) (v := 0) rfl dX5_house_21 (by decide +kernel) ?_
        refine sw_goto (tgt := 30) dX5_house_22 (by decide +kernel) ?_
        refine sw_ret (v := some _) ⟨dX5_house_30, _, rfl, rfl⟩ ?_
        rw [opHouse_x qX]
        exact pm_x tc_1 p15M p15A p15F (Nat.le_refl _)
  refine sw_aload_n (pc' := 1) rfl dX5_house_0 rfl ?_
  refine sw_iload_n (pc' := 2) rfl dX5_house_1 rfl ?_
  refine sw_iconst (pc' := 3) (v := 0) rfl dX5_house_2 (by decide +kernel) ?_
  refine sw_iconst (pc' := 4) (v := 5) rfl dX5_house_3 (by decide +kernel) ?_
  refine sw_S (M' := MX5_isIn) (d' := d - 1) (bc' := 0) (bs' := 0) (as := [_, _, _]) dX5_house_4 w_1168 ok_X5_isIn (q_isIn) (by omega) (Nat.le_of_ble_eq_true rfl) (Nat.zero_le _) (Nat.zero_le _) (fun E h' n' _ z => det_x z) (det_k ?_)
  rw [show inB (nI X) 0 5 = true from inB_k (N := 5) hX (by decide +kernel)]
  show SW _ _ _ _ _ _ _ (.int 1 :: _) _ _ _
  refine sw_if_ne (pc' := 10) (tgt := 14) rfl dX5_house_7 (by decide +kernel) (fun c7 => ?_) (fun c7 => ?_)
  · refine sw_iconst (pc' := 15) (v := 0) rfl dX5_house_14 (by decide +kernel) ?_
    refine sw_V (M' := MX5_isStopped__) (d' := d - 1) (bc' := 0) (bs' := 0) (ci := 6) (as := [_]) dX5_house_15 w_1235 ok_X5_isStopped__ (q_isStopped1 (a := false) hM hA (by omega)) hM.ob rfl (by omega) (Nat.le_of_ble_eq_true rfl) (Nat.zero_le _) (Nat.zero_le _) (fun E h' n' _ z => rp_x z) (rp_k (fun p15 p15ρ p15τ p15M p15A p15F => ?_))
    obtain ⟨Gp15, hGp15, eGp15⟩ := p15M.out
    show SW _ _ _ _ _ _ _ (.int 0 :: _) _ _ _
    refine sw_if_eq (pc' := 21) (tgt := 25) rfl dX5_house_18 (by decide +kernel) (fun c18 => ?_) (fun c18 => ?_)
    · refine sw_aload_n (pc' := 26) rfl dX5_house_25 rfl ?_
      refine sw_iload_n (pc' := 27) rfl dX5_house_26 rfl ?_
      refine sw_V (M' := MX5_houseTold) (d' := d - 1) (bc' := 1) (bs' := 12) (ci := 6) (as := [_]) dX5_house_27 w_1467 ok_X5_houseTold (q_houseTold p15M p15A hI hX (by omega) (by omega) (by omega) (by omega)) p15M.ob rfl (by omega) (Nat.le_of_ble_eq_true rfl) (by omega) (by omega) (fun E h' n' _ z => tp_x z) (tp_k (fun p27 p27n p27k p27F => ?_))
      have p27M := p15M.fr (fun i h1 h2 => p27F i (by omega))
      refine sw_ret (v := some _) ⟨dX5_house_30, _, rfl, rfl⟩ ?_
      rw [opHouse_k hX]
      exact pm_k p27M p15A (p15F.tr (fun i _ q => p27F i q) (Nat.le_refl _)) p27k
    · exact absurd c18 (by decide +kernel)
  · exact absurd c7 (by decide +kernel)
