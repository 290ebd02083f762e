/-! what isSound looks at -/
/-- the probes are otherwise, nothing else is -/
theorem rc_probe {h h' : AH} {σ : CS} (hR : RC h σ) (p1 : PrW h' 131) (p2 : PrW h' 132) (p3 : ∃ f c s t, ShF h' 133 1 f c s t) (hF : ∀ i, i < 131 ∨ 135 ≤ i → h' i = h i) : RC h' σ := by
  obtain ⟨g1, ⟨a, g2, g2'⟩, ⟨a1, g3, g3'⟩, g4, g5, g6, g7, g8, g9⟩ := id hR
  refine ⟨(hF 100 (by omega)).trans g1, ⟨a, (hF 101 (by omega)).trans g2, g2'⟩, ⟨a1, (hF 124 (by omega)).trans g3, g3'⟩, fun j hj => ⟨(hF _ (by omega)).trans (g4 j hj).1, (hF _ (by omega)).trans (g4 j hj).2.1, (g4 j hj).2.2⟩, fun j hj => ⟨(g5 j hj).1, (hF _ (by omega)).trans (g5 j hj).2.1, (g5 j hj).2.2⟩, p1, p2, p3, fun j h1 h2 => ⟨(g9 j h1 h2).1, (hF j (by omega)).trans (g9 j h1 h2).2⟩⟩
theorem hm_i {c i : Nat} {s : Int32} (hi : i ≤ 12) (hc : c ≤ 12) : hmB c s (nI i) 0 s = decide (i < c) := by
  unfold hmB
  rw [decide_eq_false (fun q : s ≠ s => q rfl), show nI i - 0 = nI i from Int32.sub_zero _, Bool.not_false, Bool.true_and]
  exact decide_eq_decide.mpr (nI_ltI (by omega) (by omega))
/-- two probes were used -/
def PgP (h : AH) (r : Option Value) (n : Nat) : ARes → AH → Nat → Prop := fun r' h' n' => r' = .inl r ∧ n' = n ∧ PrW h' 131 ∧ PrW h' 132 ∧ ∀ i, i ≠ 131 → i ≠ 132 → h' i = h i
theorem WkF.pr {h : AH} {w b : Nat} {mk la : Bool} {sh hw gi tk ss ts : Int32} (hW : WkF h w mk b sh hw gi tk ss ts la) : PrW h w := ⟨mk, b, sh, hw, gi, tk, ss, ts, la, hW⟩
theorem l_giveTheSame {d bc bs n k kd c : Nat} {f : Nat → Int32} {s t x y z : Int32} {rf kn : Int32} {h0 : AH} (hk : k < 11) (hd : 2 ≤ d) (hc : c ≤ 12) (m : Nat) : ∀ (i : Nat) (h : AH) (t1 t2 u1 u2 v1 v2 : Int32) (l1 l2 : Bool), i + m = c → h 100 = .inr (4, [.ref 101, .ref 124, .ref 131, .ref 132, .ref 133, .int rf, .int kn]) → WkF h 131 true (102 + 2 * k) u1 v1 (nI i) 0 s t1 l1 → WkF h 132 true (102 + 2 * k) u2 v2 (nI i) 0 s t2 l2 → ShF h (102 + 2 * k) kd f c s t → (∀ j, j ≠ 131 → j ≠ 132 → h j = h0 j) → SW SR0 MX3_giveTheSame d bc bs 33 [(5, .int (nI i)), (4, .ref (102 + 2 * k)), (0, .ref 100), (1, .int x), (2, .int y), (3, .int z)] [] h n (PgP h0 (some (.int 1)) n) := by
  induction m with
  | zero =>
    intro i h t1 t2 u1 u2 v1 v2 l1 l2 hi hO hA hB hS hF
    have hic : i = c := by omega
    subst hic
    have e0 : hmB i s (nI i) 0 s = false := (hm_i hc hc).trans (decide_eq_false (Nat.lt_irrefl _))
    refine sw_iload (pc' := 35) rfl dX3_giveTheSame_33 rfl ?_
    refine sw_bipush (pc' := 37) (v := 12) rfl dX3_giveTheSame_35 (by decide +kernel) ?_
    refine sw_icmp_ge (pc' := 40) (tgt := 85) rfl dX3_giveTheSame_37 (by decide +kernel) (fun c37 => ?_) (fun c37 => ?_)
    · refine sw_iload (pc' := 87) rfl dX3_giveTheSame_85 rfl ?_
      refine sw_aload (pc' := 89) rfl dX3_giveTheSame_87 rfl ?_
      refine sw_getf (ci := 2) (k := 2) (pc' := 92) rfl dX3_giveTheSame_89 (by decide +kernel) w_84 hS.1 rfl ?_
      refine sw_icmp_ne (pc' := 95) (tgt := 119) rfl dX3_giveTheSame_92 (by decide +kernel) (fun c92 => ?_) (fun c92 => ?_)
      · exact absurd rfl c92
      · refine sw_aload_n (pc' := 96) rfl dX3_giveTheSame_95 rfl ?_
        refine sw_getf (ci := 4) (k := 2) (pc' := 99) rfl dX3_giveTheSame_96 (by decide +kernel) w_152 hO rfl ?_
        refine sw_V (M' := MX2_hasMore) (d' := d - 1) (bc' := 0) (bs' := 0) (ci := 3) (as := []) dX3_giveTheSame_99 w_188 ok_X2_hasMore (m_hasMore hA hS (by omega)) hA.1 rfl (by omega) (Nat.le_of_ble_eq_true rfl) (Nat.zero_le _) (Nat.zero_le _) (fun E h' n' _ z => det_x z) (det_k ?_)
        rw [e0]
        refine sw_if_ne (pc' := 105) (tgt := 119) rfl dX3_giveTheSame_102 (by decide +kernel) (fun c102 => ?_) (fun c102 => ?_)
        · exact absurd rfl c102
        · refine sw_aload_n (pc' := 106) rfl dX3_giveTheSame_105 rfl ?_
          refine sw_getf (ci := 4) (k := 3) (pc' := 109) rfl dX3_giveTheSame_106 (by decide +kernel) w_153 hO rfl ?_
          refine sw_V (M' := MX2_hasMore) (d' := d - 1) (bc' := 0) (bs' := 0) (ci := 3) (as := []) dX3_giveTheSame_109 w_188 ok_X2_hasMore (m_hasMore hB hS (by omega)) hB.1 rfl (by omega) (Nat.le_of_ble_eq_true rfl) (Nat.zero_le _) (Nat.zero_le _) (fun E h' n' _ z => det_x z) (det_k ?_)
          rw [e0]
          refine sw_if_ne (pc' := 115) (tgt := 119) rfl dX3_giveTheSame_112 (by decide +kernel) (fun c112 => ?_) (fun c112 => ?_)
          · exact absurd rfl c112
          · refine sw_iconst (pc' := 116) (v := 1) rfl dX3_giveTheSame_115 (by decide +kernel) ?_
            refine sw_goto (tgt := 120) dX3_giveTheSame_116 (by decide +kernel) ?_
            refine sw_ret (v := some _) ⟨dX3_giveTheSame_120, _, rfl, rfl⟩ ?_
            exact ⟨rfl, rfl, hA.pr, hB.pr, hF⟩
    · refine sw_aload_n (pc' := 41) rfl dX3_giveTheSame_40 rfl ?_
      refine sw_getf (ci := 4) (k := 2) (pc' := 44) rfl dX3_giveTheSame_41 (by decide +kernel) w_152 hO rfl ?_
      refine sw_V (M' := MX2_hasMore) (d' := d - 1) (bc' := 0) (bs' := 0) (ci := 3) (as := []) dX3_giveTheSame_44 w_188 ok_X2_hasMore (m_hasMore hA hS (by omega)) hA.1 rfl (by omega) (Nat.le_of_ble_eq_true rfl) (Nat.zero_le _) (Nat.zero_le _) (fun E h' n' _ z => det_x z) (det_k ?_)
      rw [e0]
      refine sw_if_eq (pc' := 50) (tgt := 85) rfl dX3_giveTheSame_47 (by decide +kernel) (fun c47 => ?_) (fun c47 => ?_)
      · refine sw_iload (pc' := 87) rfl dX3_giveTheSame_85 rfl ?_
        refine sw_aload (pc' := 89) rfl dX3_giveTheSame_87 rfl ?_
        refine sw_getf (ci := 2) (k := 2) (pc' := 92) rfl dX3_giveTheSame_89 (by decide +kernel) w_84 hS.1 rfl ?_
        refine sw_icmp_ne (pc' := 95) (tgt := 119) rfl dX3_giveTheSame_92 (by decide +kernel) (fun c92 => ?_) (fun c92 => ?_)
        · exact absurd rfl c92
        · refine sw_aload_n (pc' := 96) rfl dX3_giveTheSame_95 rfl ?_
          refine sw_getf (ci := 4) (k := 2) (pc' := 99) rfl dX3_giveTheSame_96 (by decide +kernel) w_152 hO rfl ?_
          refine sw_V (M' := MX2_hasMore) (d' := d - 1) (bc' := 0) (bs' := 0) (ci := 3) (as := []) dX3_giveTheSame_99 w_188 ok_X2_hasMore (m_hasMore hA hS (by omega)) hA.1 rfl (by omega) (Nat.le_of_ble_eq_true rfl) (Nat.zero_le _) (Nat.zero_le _) (fun E h' n' _ z => det_x z) (det_k ?_)
          rw [e0]
          refine sw_if_ne (pc' := 105) (tgt := 119) rfl dX3_giveTheSame_102 (by decide +kernel) (fun c102 => ?_) (fun c102 => ?_)
          · exact absurd rfl c102
          · refine sw_aload_n (pc' := 106) rfl dX3_giveTheSame_105 rfl ?_
            refine sw_getf (ci := 4) (k := 3) (pc' := 109) rfl dX3_giveTheSame_106 (by decide +kernel) w_153 hO rfl ?_
            refine sw_V (M' := MX2_hasMore) (d' := d - 1) (bc' := 0) (bs' := 0) (ci := 3) (as := []) dX3_giveTheSame_109 w_188 ok_X2_hasMore (m_hasMore hB hS (by omega)) hB.1 rfl (by omega) (Nat.le_of_ble_eq_true rfl) (Nat.zero_le _) (Nat.zero_le _) (fun E h' n' _ z => det_x z) (det_k ?_)
            rw [e0]
            refine sw_if_ne (pc' := 115) (tgt := 119) rfl dX3_giveTheSame_112 (by decide +kernel) (fun c112 => ?_) (fun c112 => ?_)
            · exact absurd rfl c112
            · refine sw_iconst (pc' := 116) (v := 1) rfl dX3_giveTheSame_115 (by decide +kernel) ?_
              refine sw_goto (tgt := 120) dX3_giveTheSame_116 (by decide +kernel) ?_
              refine sw_ret (v := some _) ⟨dX3_giveTheSame_120, _, rfl, rfl⟩ ?_
              exact ⟨rfl, rfl, hA.pr, hB.pr, hF⟩
      · exact absurd rfl c47
  | succ m ih =>
    intro i h t1 t2 u1 u2 v1 v2 l1 l2 hi hO hA hB hS hF
    have e0 : hmB c s (nI i) 0 s = true := (hm_i (by omega) hc).trans (decide_eq_true (by omega))
    have hne1 : 102 + 2 * k ≠ 131 ∧ 102 + 2 * k + 1 ≠ 131 := by omega
    have hne2 : 102 + 2 * k ≠ 132 ∧ 102 + 2 * k + 1 ≠ 132 := by omega
    refine sw_iload (pc' := 35) rfl dX3_giveTheSame_33 rfl ?_
    refine sw_bipush (pc' := 37) (v := 12) rfl dX3_giveTheSame_35 (by decide +kernel) ?_
    refine sw_icmp_ge (pc' := 40) (tgt := 85) rfl dX3_giveTheSame_37 (by decide +kernel) (fun c37 => ?_) (fun c37 => ?_)
    · exact absurd c37 (nI_ge (b := 12) (by omega) (by decide +kernel))
    · refine sw_aload_n (pc' := 41) rfl dX3_giveTheSame_40 rfl ?_
      refine sw_getf (ci := 4) (k := 2) (pc' := 44) rfl dX3_giveTheSame_41 (by decide +kernel) w_152 hO rfl ?_
      refine sw_V (M' := MX2_hasMore) (d' := d - 1) (bc' := 0) (bs' := 0) (ci := 3) (as := []) dX3_giveTheSame_44 w_188 ok_X2_hasMore (m_hasMore hA hS (by omega)) hA.1 rfl (by omega) (Nat.le_of_ble_eq_true rfl) (Nat.zero_le _) (Nat.zero_le _) (fun E h' n' _ z => det_x z) (det_k ?_)
      rw [e0]
      refine sw_if_eq (pc' := 50) (tgt := 85) rfl dX3_giveTheSame_47 (by decide +kernel) (fun c47 => ?_) (fun c47 => ?_)
      · exact absurd c47 (by decide +kernel)
      · refine sw_aload_n (pc' := 51) rfl dX3_giveTheSame_50 rfl ?_
        refine sw_getf (ci := 4) (k := 3) (pc' := 54) rfl dX3_giveTheSame_51 (by decide +kernel) w_153 hO rfl ?_
        refine sw_V (M' := MX2_hasMore) (d' := d - 1) (bc' := 0) (bs' := 0) (ci := 3) (as := []) dX3_giveTheSame_54 w_188 ok_X2_hasMore (m_hasMore hB hS (by omega)) hB.1 rfl (by omega) (Nat.le_of_ble_eq_true rfl) (Nat.zero_le _) (Nat.zero_le _) (fun E h' n' _ z => det_x z) (det_k ?_)
        rw [e0]
        refine sw_if_eq (pc' := 60) (tgt := 85) rfl dX3_giveTheSame_57 (by decide +kernel) (fun c57 => ?_) (fun c57 => ?_)
        · exact absurd c57 (by decide +kernel)
        · refine sw_aload_n (pc' := 61) rfl dX3_giveTheSame_60 rfl ?_
          refine sw_getf (ci := 4) (k := 2) (pc' := 64) rfl dX3_giveTheSame_61 (by decide +kernel) w_152 hO rfl ?_
          refine sw_V (M' := MX2_give) (d' := d - 1) (bc' := 0) (bs' := 0) (ci := 3) (as := []) dX3_giveTheSame_64 w_200 ok_X2_give (m_give hA hS hne1 (by omega)) hA.1 rfl (by omega) (Nat.le_of_ble_eq_true rfl) (Nat.zero_le _) (Nat.zero_le _) (fun E h' n' _ z => wkp_x z) (wkp_k (fun p pW pF => ?_))
          refine sw_aload_n (pc' := 68) rfl dX3_giveTheSame_67 rfl ?_
          refine sw_getf (ci := 4) (k := 3) (pc' := 71) rfl dX3_giveTheSame_68 (by decide +kernel) w_153 ((pF 100 (by omega)).trans hO) rfl ?_
          refine sw_V (M' := MX2_give) (d' := d - 1) (bc' := 0) (bs' := 0) (ci := 3) (as := []) dX3_giveTheSame_71 w_200 ok_X2_give (m_give (hB.frW pF (by decide +kernel)) (hS.frW pF hne1) hne2 (by omega)) (hB.frW pF (by decide +kernel)).1 rfl (by omega) (Nat.le_of_ble_eq_true rfl) (Nat.zero_le _) (Nat.zero_le _) (fun E h' n' _ z => wkp_x z) (wkp_k (fun o oW oF => ?_))
          refine sw_icmp_eq (pc' := 77) (tgt := 79) rfl dX3_giveTheSame_74 (by decide +kernel) (fun c74 => ?_) (fun c74 => ?_)
          · refine sw_iinc (pc' := 82) (lv' := [(5, _), (4, _), (0, _), (1, _), (2, _), (3, _)]) (v := nI (i + 1)) rfl dX3_giveTheSame_79 rfl (nI_succ i).symm (by decide +kernel) rfl ?_
            refine sw_goto (tgt := 33) dX3_giveTheSame_82 (by decide +kernel) ?_
            have e1 : nI i + 1 = nI (i + 1) := (nI_succ i).symm
            rw [e1] at pW oW
            exact ih (i + 1) o t t u1 u2 v1 v2 true true (by omega) ((oF 100 (by omega)).trans ((pF 100 (by omega)).trans hO)) (pW.frW oF (by decide +kernel)) oW ((hS.frW pF hne1).frW oF hne2) (fun j h1 h2 => (oF j h2).trans ((pF j h1).trans (hF j h1 h2)))
          · exact absurd rfl c74
theorem m_giveTheSame {h : AH} {σ : CS} {d bc bs n k : Nat} {y z : Int32} (hR : RC h σ) (hk : k < 11) (hd : 2 ≤ d) : SM SR0 MX3_giveTheSame d bc bs [.ref 100, .int (nI k), .int y, .int z] h n (PgP h (some (.int 1)) n) := by
  obtain ⟨g, ga, gb⟩ := hR.2.1
  obtain ⟨mk1, b1, a1, a2, a3, a4, a5, a6, l1, P1⟩ := hR.2.2.2.2.2.1
  obtain ⟨mk2, b2, d1, d2, d3, d4, d5, d6, l2, P2⟩ := hR.2.2.2.2.2.2.1
  have hne1 : 102 + 2 * k ≠ 131 ∧ 102 + 2 * k + 1 ≠ 131 := by omega
  have hne2 : 102 + 2 * k ≠ 132 ∧ 102 + 2 * k + 1 ≠ 132 := by omega
  refine sm_of pn_Overwalks rfl (Nat.le_of_ble_eq_true rfl) ?_
  refine sw_aload_n (pc' := 1) rfl dX3_giveTheSame_0 rfl ?_
  refine sw_getf (ci := 4) (k := 0) (pc' := 4) rfl dX3_giveTheSame_1 (by decide +kernel) w_150 hR.1 rfl ?_
  refine sw_iload_n (pc' := 5) rfl dX3_giveTheSame_4 rfl ?_
  refine sw_aald (pc' := 6) rfl dX3_giveTheSame_5 ga (by decide +kernel) (by decide +kernel) rfl hk (by decide +kernel) (gb k hk) ?_
  refine sw_astore (pc' := 8) (lv' := [(4, _), (0, _), (1, _), (2, _), (3, _)]) rfl dX3_giveTheSame_6 (by decide +kernel) rfl ?_
  refine sw_aload_n (pc' := 9) rfl dX3_giveTheSame_8 rfl ?_
  refine sw_getf (ci := 4) (k := 2) (pc' := 12) rfl dX3_giveTheSame_9 (by decide +kernel) w_152 hR.1 rfl ?_
  refine sw_aload (pc' := 14) rfl dX3_giveTheSame_12 rfl ?_
  refine sw_iload_n (pc' := 15) rfl dX3_giveTheSame_14 rfl ?_
  refine sw_iload_n (pc' := 16) rfl dX3_giveTheSame_15 rfl ?_
  refine sw_V (M' := MX2_begin) (d' := d - 1) (bc' := 0) (bs' := 0) (ci := 3) (as := [_, _, _]) dX3_giveTheSame_16 w_184 ok_X2_begin (m_begin P1 (hR.sh hk) hne1) P1.1 rfl (by omega) (Nat.le_of_ble_eq_true rfl) (Nat.zero_le _) (Nat.zero_le _) (fun E h' n' _ z => wkp_x z) (wkp_k (fun p pW pF => ?_))
  refine sw_aload_n (pc' := 20) rfl dX3_giveTheSame_19 rfl ?_
  refine sw_getf (ci := 4) (k := 3) (pc' := 23) rfl dX3_giveTheSame_20 (by decide +kernel) w_153 ((pF 100 (by omega)).trans hR.1) rfl ?_
  refine sw_aload (pc' := 25) rfl dX3_giveTheSame_23 rfl ?_
  refine sw_iload_n (pc' := 26) rfl dX3_giveTheSame_25 rfl ?_
  refine sw_iload_n (pc' := 27) rfl dX3_giveTheSame_26 rfl ?_
  refine sw_V (M' := MX2_begin) (d' := d - 1) (bc' := 0) (bs' := 0) (ci := 3) (as := [_, _, _]) dX3_giveTheSame_27 w_184 ok_X2_begin (m_begin (P2.frW pF (by decide +kernel)) ((hR.sh hk).frW pF hne1) hne2) (P2.frW pF (by decide +kernel)).1 rfl (by omega) (Nat.le_of_ble_eq_true rfl) (Nat.zero_le _) (Nat.zero_le _) (fun E h' n' _ z => wkp_x z) (wkp_k (fun o oW oF => ?_))
  refine sw_iconst (pc' := 31) (v := 0) rfl dX3_giveTheSame_30 (by decide +kernel) ?_
  refine sw_istore (pc' := 33) (lv' := [(5, _), (4, _), (0, _), (1, _), (2, _), (3, _)]) rfl dX3_giveTheSame_31 (by decide +kernel) rfl ?_
  exact l_giveTheSame hk hd (hR.sh hk).2.2.1 (σ.2.1 k) 0 o _ _ _ _ _ _ _ _ (by omega) ((oF 100 (by omega)).trans ((pF 100 (by omega)).trans hR.1)) (pW.frW oF (by decide +kernel)) oW (((hR.sh hk).frW pF hne1).frW oF hne2) (fun j h1 h2 => (oF j h2).trans (pF j h1))
