/-! the model: putAll, digest -/
theorem caM_up {k : Nat} {a b c e : Int32} {f : Nat → Int32} {m : Nat} (hm : m ≤ 4) {w : Bool} {σ : CS} : caM k (up (up (up (up f 0 a) 1 b) 2 c) 3 e) 0 m w σ = paM k a b c e 0 m w σ := by
  rw [caM_pa]
  exact caM_cg (fun i _ hi => o4_up i (by omega))
theorem wrB_cg {f g : Nat → Int32} {m : Nat} : ∀ {j : Nat}, (∀ i, j ≤ i → i < j + m → f i = g i) → wrB f j m = wrB g j m := by
  induction m with
  | zero => intro j _; rfl
  | succ m ih =>
    intro j h
    unfold wrB
    rw [h j (Nat.le_refl _) (by omega), ih (fun i h1 h2 => h i (by omega) (by omega))]
theorem taB_n {k : Nat} {x : Int32} {w b : Bool} : (w || !(tkB k x && b)) = (w || (decide (x = 100) && !kN (kdO k)) || !b) := by
  unfold tkB
  by_cases e : x = 100
  · rw [decide_eq_false (fun q => q e), decide_eq_true e, Bool.false_or, Bool.true_and, Bool.not_and, Bool.or_assoc]
  · rw [decide_eq_true (show x ≠ 100 from e), decide_eq_false e, Bool.true_or, Bool.true_and, Bool.false_and, Bool.or_false]
theorem ql_pa1 {h : AH} {d bc bs : Nat} {z N : Nat} {g : Nat → Int32} {s a b c e : Int32} {Post : ARes → AH → Nat → Prop} (hB : h z = .inl (0, 4, .inl g)) (hz : 158 ≤ z) (hd : 3 ≤ d) (m : Nat) : ∀ (j : Nat) (w : Bool), j + m = 4 → SW SR0 MX5_putAll d bc bs 79 [(10, .int (nI 4)), (7, .int (bI (w || wrB g j m))), (9, .int (nI 4)), (8, .ref z), (6, .ref z), (0, .ref 135), (1, .int s), (2, .int a), (3, .int b), (4, .int c), (5, .int e)] [] h N Post → SW SR0 MX5_putAll d bc bs 38 [(10, .int (nI j)), (7, .int (bI w)), (9, .int (nI 4)), (8, .ref z), (6, .ref z), (0, .ref 135), (1, .int s), (2, .int a), (3, .int b), (4, .int c), (5, .int e)] [] h N Post := by
  induction m with
  | zero =>
    intro j w hj fq
    rw [show wrB g j 0 = false from rfl, Bool.or_false] at fq
    have hj4 : j = 4 := by omega
    subst hj4
    refine sw_iload (pc' := 40) rfl dX5_putAll_38 rfl ?_
    refine sw_iload (pc' := 42) rfl dX5_putAll_40 rfl ?_
    refine sw_icmp_ge (pc' := 45) (tgt := 79) rfl dX5_putAll_42 (by decide +kernel) (fun c42 => ?_) (fun c42 => ?_)
    · exact fq
    · exact absurd (Int32.le_refl (nI 4)) c42
  | succ m ih =>
    intro j w hj fq
    rw [wrB, ← Bool.or_assoc] at fq
    refine sw_iload (pc' := 40) rfl dX5_putAll_38 rfl ?_
    refine sw_iload (pc' := 42) rfl dX5_putAll_40 rfl ?_
    refine sw_icmp_ge (pc' := 45) (tgt := 79) rfl dX5_putAll_42 (by decide +kernel) (fun c42 => ?_) (fun c42 => ?_)
    · exact absurd c42 (nI_ge (b := 4) (by omega) (by decide +kernel))
    · refine sw_aload (pc' := 47) rfl dX5_putAll_45 rfl ?_
      refine sw_iload (pc' := 49) rfl dX5_putAll_47 rfl ?_
      refine sw_iald (j := j) (pc' := 50) rfl dX5_putAll_49 hB rfl (by omega) (by decide +kernel) ?_
      refine sw_istore (pc' := 52) (lv' := [(11, _), (10, _), (7, _), (9, _), (8, _), (6, _), (0, _), (1, _), (2, _), (3, _), (4, _), (5, _)]) rfl dX5_putAll_50 (by decide +kernel) rfl ?_
      refine sw_iload (pc' := 54) rfl dX5_putAll_52 rfl ?_
      refine sw_iload (pc' := 56) rfl dX5_putAll_54 rfl ?_
      refine sw_iconst (pc' := 57) (v := (-1)) rfl dX5_putAll_56 (by decide +kernel) ?_
      refine sw_bipush (pc' := 59) (v := 100) rfl dX5_putAll_57 (by decide +kernel) ?_
      refine sw_S (M' := MX5_isIn) (d' := d - 1) (bc' := 0) (bs' := 0) (as := [_, _, _]) dX5_putAll_59 w_1168 ok_X5_isIn (q_isIn) (by omega) (Nat.le_of_ble_eq_true rfl) (Nat.zero_le _) (Nat.zero_le _) (fun E h' n' _ z => det_x z) (det_k ?_)
      refine sw_if_ne (pc' := 65) (tgt := 69) rfl dX5_putAll_62 (by decide +kernel) (fun c62 => ?_) (fun c62 => ?_)
      · refine sw_iconst (pc' := 70) (v := 0) rfl dX5_putAll_69 (by decide +kernel) ?_
        refine sw_ior (pc' := 71) rfl dX5_putAll_70 ?_
        rw [show bI w ||| 0 = bI (w || false) from bI_or (b := false)]
        refine sw_istore (pc' := 73) (lv' := [(7, _), (11, _), (10, _), (9, _), (8, _), (6, _), (0, _), (1, _), (2, _), (3, _), (4, _), (5, _)]) rfl dX5_putAll_71 (by decide +kernel) rfl ?_
        refine sw_iinc (pc' := 76) (lv' := [(10, _), (7, _), (11, _), (9, _), (8, _), (6, _), (0, _), (1, _), (2, _), (3, _), (4, _), (5, _)]) (v := nI (j + 1)) rfl dX5_putAll_73 rfl (nI_1 j) (by decide +kernel) rfl ?_
        refine sw_goto (tgt := 38) dX5_putAll_76 (by decide +kernel) ?_
        rw [bI_1 c62] at fq
        exact SW.pick [0, 1, 3, 4, 5, 6, 7, 8, 9, 10, 11] rfl (ih (j + 1) (w || false) (by omega) fq)
      · refine sw_iconst (pc' := 66) (v := 1) rfl dX5_putAll_65 (by decide +kernel) ?_
        refine sw_goto (tgt := 70) dX5_putAll_66 (by decide +kernel) ?_
        refine sw_ior (pc' := 71) rfl dX5_putAll_70 ?_
        rw [show bI w ||| 1 = bI (w || true) from bI_or (b := true)]
        refine sw_istore (pc' := 73) (lv' := [(7, _), (11, _), (10, _), (9, _), (8, _), (6, _), (0, _), (1, _), (2, _), (3, _), (4, _), (5, _)]) rfl dX5_putAll_71 (by decide +kernel) rfl ?_
        refine sw_iinc (pc' := 76) (lv' := [(10, _), (7, _), (11, _), (9, _), (8, _), (6, _), (0, _), (1, _), (2, _), (3, _), (4, _), (5, _)]) (v := nI (j + 1)) rfl dX5_putAll_73 rfl (nI_1 j) (by decide +kernel) rfl ?_
        refine sw_goto (tgt := 38) dX5_putAll_76 (by decide +kernel) ?_
        rw [bI_0 c62] at fq
        exact SW.pick [0, 1, 3, 4, 5, 6, 7, 8, 9, 10, 11] rfl (ih (j + 1) (w || true) (by omega) fq)
theorem ql_pa2 {h : AH} {d bc bs : Nat} {w : Bool} {z N : Nat} {g : Nat → Int32} {s a b c e : Int32} {Post : ARes → AH → Nat → Prop} (hB : h z = .inl (0, 4, .inl g)) (hz : 158 ≤ z) (hd : 3 ≤ d) (hg : ∀ i, i < 4 → g i = o4 (nI i) a b c e) (m : Nat) : ∀ (j : Nat), j + m = 4 → SW SR0 MX5_putAll d bc bs 103 [(8, .int (nI (cfN a b c e j m))), (7, .int (bI w)), (6, .ref z), (0, .ref 135), (1, .int s), (2, .int a), (3, .int b), (4, .int c), (5, .int e)] [] h N Post → SW SR0 MX5_putAll d bc bs 82 [(8, .int (nI j)), (7, .int (bI w)), (6, .ref z), (0, .ref 135), (1, .int s), (2, .int a), (3, .int b), (4, .int c), (5, .int e)] [] h N Post := by
  induction m with
  | zero =>
    intro j hj fq
    have hj4 : j = 4 := by omega
    subst hj4
    refine sw_iload (pc' := 84) rfl dX5_putAll_82 rfl ?_
    refine sw_iconst (pc' := 85) (v := 4) rfl dX5_putAll_84 (by decide +kernel) ?_
    refine sw_icmp_ge (pc' := 88) (tgt := 103) rfl dX5_putAll_85 (by decide +kernel) (fun c85 => ?_) (fun c85 => ?_)
    · exact fq
    · exact absurd (Int32.le_refl (nI 4)) c85
  | succ m ih =>
    intro j hj fq
    rw [cfN] at fq
    refine sw_iload (pc' := 84) rfl dX5_putAll_82 rfl ?_
    refine sw_iconst (pc' := 85) (v := 4) rfl dX5_putAll_84 (by decide +kernel) ?_
    refine sw_icmp_ge (pc' := 88) (tgt := 103) rfl dX5_putAll_85 (by decide +kernel) (fun c85 => ?_) (fun c85 => ?_)
    · exact absurd c85 (nI_ge (b := 4) (by omega) (by decide +kernel))
    · refine sw_aload (pc' := 90) rfl dX5_putAll_88 rfl ?_
      refine sw_iload (pc' := 92) rfl dX5_putAll_90 rfl ?_
      refine sw_iald (j := j) (pc' := 93) rfl dX5_putAll_92 hB rfl (by omega) (by decide +kernel) ?_
      rw [hg j (by omega)]
      refine sw_iconst (pc' := 94) (v := (-1)) rfl dX5_putAll_93 (by decide +kernel) ?_
      refine sw_icmp_eq (pc' := 97) (tgt := 103) rfl dX5_putAll_94 (by decide +kernel) (fun c94 => ?_) (fun c94 => ?_)
      · rw [if_pos c94] at fq
        exact fq
      · refine sw_iinc (pc' := 100) (lv' := [(8, _), (7, _), (6, _), (0, _), (1, _), (2, _), (3, _), (4, _), (5, _)]) (v := nI (j + 1)) rfl dX5_putAll_97 rfl (nI_1 j) (by decide +kernel) rfl ?_
        refine sw_goto (tgt := 82) dX5_putAll_100 (by decide +kernel) ?_
        rw [if_neg c94] at fq
        exact ih (j + 1) (by omega) fq
theorem ql_pa3 {h : AH} {d bc bs k M9 : Nat} {z N : Nat} {g : Nat → Int32} {s a b c e : Int32} {Post : ARes → AH → Nat → Prop} (hB : h z = .inl (0, 4, .inl g)) (hz : 158 ≤ z) (hd : 3 ≤ d) (hg : ∀ i, i < 4 → g i = o4 (nI i) a b c e) (hk : k < 11) (hM9 : M9 ≤ 4) (m : Nat) : ∀ (j : Nat) (w : Bool), j + m = M9 → SW SR0 MX5_putAll d bc bs 193 [(10, .int (nI M9)), (9, .int (bI (w || !taB k a b c e j m))), (8, .int (nI M9)), (6, .ref z), (0, .ref 135), (1, .int (nI k)), (2, .int a), (3, .int b), (4, .int c), (5, .int e)] [] h N Post → SW SR0 MX5_putAll d bc bs 153 [(10, .int (nI j)), (9, .int (bI w)), (8, .int (nI M9)), (6, .ref z), (0, .ref 135), (1, .int (nI k)), (2, .int a), (3, .int b), (4, .int c), (5, .int e)] [] h N Post := by
  induction m with
  | zero =>
    intro j w hj fq
    rw [show taB k a b c e j 0 = true from rfl, Bool.not_true, Bool.or_false] at fq
    have hj4 : j = M9 := by omega
    subst hj4
    refine sw_iload (pc' := 155) rfl dX5_putAll_153 rfl ?_
    refine sw_iload (pc' := 157) rfl dX5_putAll_155 rfl ?_
    refine sw_icmp_ge (pc' := 160) (tgt := 193) rfl dX5_putAll_157 (by decide +kernel) (fun c157 => ?_) (fun c157 => ?_)
    · exact fq
    · exact absurd (Int32.le_refl _) c157
  | succ m ih =>
    intro j w hj fq
    rw [taB, taB_n] at fq
    refine sw_iload (pc' := 155) rfl dX5_putAll_153 rfl ?_
    refine sw_iload (pc' := 157) rfl dX5_putAll_155 rfl ?_
    refine sw_icmp_ge (pc' := 160) (tgt := 193) rfl dX5_putAll_157 (by decide +kernel) (fun c157 => ?_) (fun c157 => ?_)
    · exact absurd c157 (nI_ge (by omega) (by omega))
    · refine sw_iload (pc' := 162) rfl dX5_putAll_160 rfl ?_
      refine sw_aload (pc' := 164) rfl dX5_putAll_162 rfl ?_
      refine sw_iload (pc' := 166) rfl dX5_putAll_164 rfl ?_
      refine sw_iald (j := j) (pc' := 167) rfl dX5_putAll_166 hB rfl (by omega) (by decide +kernel) ?_
      rw [hg j (by omega)]
      refine sw_bipush (pc' := 169) (v := 100) rfl dX5_putAll_167 (by decide +kernel) ?_
      refine sw_icmp_ne (pc' := 172) (tgt := 183) rfl dX5_putAll_169 (by decide +kernel) (fun c169 => ?_) (fun c169 => ?_)
      · refine sw_iconst (pc' := 184) (v := 0) rfl dX5_putAll_183 (by decide +kernel) ?_
        refine sw_ior (pc' := 185) rfl dX5_putAll_184 ?_
        rw [show bI w ||| 0 = bI (w || false) from bI_or (b := false)]
        refine sw_istore (pc' := 187) (lv' := [(9, _), (10, _), (8, _), (6, _), (0, _), (1, _), (2, _), (3, _), (4, _), (5, _)]) rfl dX5_putAll_185 (by decide +kernel) rfl ?_
        refine sw_iinc (pc' := 190) (lv' := [(10, _), (9, _), (8, _), (6, _), (0, _), (1, _), (2, _), (3, _), (4, _), (5, _)]) (v := nI (j + 1)) rfl dX5_putAll_187 rfl (nI_1 j) (by decide +kernel) rfl ?_
        refine sw_goto (tgt := 153) dX5_putAll_190 (by decide +kernel) ?_
        rw [decide_eq_false c169, Bool.false_and] at fq
        exact SW.pick [0, 1, 2, 3, 4, 5, 6, 7, 8, 9] rfl (ih (j + 1) (w || false) (by omega) fq)
      · refine sw_iload_n (pc' := 173) rfl dX5_putAll_172 rfl ?_
        refine sw_S (M' := MX5_takesNothing) (d' := d - 1) (bc' := 0) (bs' := 0) (as := [_]) dX5_putAll_173 w_1181 ok_X5_takesNothing (q_takesNothing (by omega)) (by omega) (Nat.le_of_ble_eq_true rfl) (Nat.zero_le _) (Nat.zero_le _) (fun E h' n' _ z => det_x z) (det_k ?_)
        rw [tn_k hk]
        refine sw_if_ne (pc' := 179) (tgt := 183) rfl dX5_putAll_176 (by decide +kernel) (fun c176 => ?_) (fun c176 => ?_)
        · refine sw_iconst (pc' := 184) (v := 0) rfl dX5_putAll_183 (by decide +kernel) ?_
          refine sw_ior (pc' := 185) rfl dX5_putAll_184 ?_
          rw [show bI w ||| 0 = bI (w || false) from bI_or (b := false)]
          refine sw_istore (pc' := 187) (lv' := [(9, _), (10, _), (8, _), (6, _), (0, _), (1, _), (2, _), (3, _), (4, _), (5, _)]) rfl dX5_putAll_185 (by decide +kernel) rfl ?_
          refine sw_iinc (pc' := 190) (lv' := [(10, _), (9, _), (8, _), (6, _), (0, _), (1, _), (2, _), (3, _), (4, _), (5, _)]) (v := nI (j + 1)) rfl dX5_putAll_187 rfl (nI_1 j) (by decide +kernel) rfl ?_
          refine sw_goto (tgt := 153) dX5_putAll_190 (by decide +kernel) ?_
          rw [bI_1 c176, Bool.not_true, Bool.and_false] at fq
          exact SW.pick [0, 1, 2, 3, 4, 5, 6, 7, 8, 9] rfl (ih (j + 1) (w || false) (by omega) fq)
        · refine sw_iconst (pc' := 180) (v := 1) rfl dX5_putAll_179 (by decide +kernel) ?_
          refine sw_goto (tgt := 184) dX5_putAll_180 (by decide +kernel) ?_
          refine sw_ior (pc' := 185) rfl dX5_putAll_184 ?_
          rw [show bI w ||| 1 = bI (w || true) from bI_or (b := true)]
          refine sw_istore (pc' := 187) (lv' := [(9, _), (10, _), (8, _), (6, _), (0, _), (1, _), (2, _), (3, _), (4, _), (5, _)]) rfl dX5_putAll_185 (by decide +kernel) rfl ?_
          refine sw_iinc (pc' := 190) (lv' := [(10, _), (9, _), (8, _), (6, _), (0, _), (1, _), (2, _), (3, _), (4, _), (5, _)]) (v := nI (j + 1)) rfl dX5_putAll_187 rfl (nI_1 j) (by decide +kernel) rfl ?_
          refine sw_goto (tgt := 153) dX5_putAll_190 (by decide +kernel) ?_
          rw [decide_eq_true c169, bI_0 c176] at fq
          exact SW.pick [0, 1, 2, 3, 4, 5, 6, 7, 8, 9] rfl (ih (j + 1) (w || true) (by omega) fq)
theorem q_putAll {h : AH} {d bc bs n : Nat} {σ : CS} {th : Int32} {s a b c e : Int32} (hR : RMo h σ th) (hI : Iv σ) (hn : 159 ≤ n) (hd : 8 ≤ d) (h1 : 1 ≤ bc) (h2 : 12 ≤ bs)  : SM SR0 MX5_putAll d bc bs [.ref 135, .int s, .int a, .int b, .int c, .int e] h n (PM h n (tc sI sA) (opPutAll σ s a b c e)) := by
  obtain ⟨ρ, τ, hM, hA⟩ := hR
  obtain ⟨G0, hG0, eG0⟩ := hM.out
  have hcf := (cfN_le (a := a) (b := b) (c := c) (e := e) (m := 4) (j := 0)).2
  refine sm_of pn_OverwalksModel rfl (Nat.le_of_ble_eq_true rfl) ?_
  rcases idxN 11 (by decide +kernel) s with qk1 | ⟨k, hk, rfl⟩
  · refine sw_iconst (pc' := 1) (v := 4) rfl dX5_putAll_0 (by decide +kernel) ?_
    refine sw_newa (t := 0) (len := 4) (pc' := 3) rfl dX5_putAll_1 (by decide +kernel) w_101 rfl (by omega) (by omega) (by omega) ?_
    refine sw_nm (fun g1 eg1 => ?_)
    have zg1 := (congrFun eg1 n).trans (up_s (h := h) (i := n))
    refine sw_dup (pc' := 4) rfl dX5_putAll_3 rfl ?_
    refine sw_iconst (pc' := 5) (v := 0) rfl dX5_putAll_4 (by decide +kernel) ?_
    refine sw_iload_n (pc' := 6) rfl dX5_putAll_5 rfl ?_
    refine sw_iast (j := 0) (pc' := 7) rfl dX5_putAll_6 zg1 (by show 100 ≤ _; omega) rfl (by omega) (by omega) ?_
    refine sw_nm (fun g2 eg2 => ?_)
    have zg2 := (congrFun eg2 n).trans (up_s (h := g1) (i := n))
    refine sw_dup (pc' := 8) rfl dX5_putAll_7 rfl ?_
    refine sw_iconst (pc' := 9) (v := 1) rfl dX5_putAll_8 (by decide +kernel) ?_
    refine sw_iload_n (pc' := 10) rfl dX5_putAll_9 rfl ?_
    refine sw_iast (j := 1) (pc' := 11) rfl dX5_putAll_10 zg2 (by show 100 ≤ _; omega) rfl (by omega) (by omega) ?_
    refine sw_nm (fun g3 eg3 => ?_)
    have zg3 := (congrFun eg3 n).trans (up_s (h := g2) (i := n))
    refine sw_dup (pc' := 12) rfl dX5_putAll_11 rfl ?_
    refine sw_iconst (pc' := 13) (v := 2) rfl dX5_putAll_12 (by decide +kernel) ?_
    refine sw_iload (pc' := 15) rfl dX5_putAll_13 rfl ?_
    refine sw_iast (j := 2) (pc' := 16) rfl dX5_putAll_15 zg3 (by show 100 ≤ _; omega) rfl (by omega) (by omega) ?_
    refine sw_nm (fun g4 eg4 => ?_)
    have zg4 := (congrFun eg4 n).trans (up_s (h := g3) (i := n))
    refine sw_dup (pc' := 17) rfl dX5_putAll_16 rfl ?_
    refine sw_iconst (pc' := 18) (v := 3) rfl dX5_putAll_17 (by decide +kernel) ?_
    refine sw_iload (pc' := 20) rfl dX5_putAll_18 rfl ?_
    refine sw_iast (j := 3) (pc' := 21) rfl dX5_putAll_20 zg4 (by show 100 ≤ _; omega) rfl (by omega) (by omega) ?_
    refine sw_nm (fun g5 eg5 => ?_)
    have zg5 := (congrFun eg5 n).trans (up_s (h := g4) (i := n))
    refine sw_astore (pc' := 23) (lv' := [(6, _), (0, _), (1, _), (2, _), (3, _), (4, _), (5, _)]) rfl dX5_putAll_21 (by decide +kernel) rfl ?_
    refine sw_iconst (pc' := 24) (v := 0) rfl dX5_putAll_23 (by decide +kernel) ?_
    refine sw_istore (pc' := 26) (lv' := [(7, _), (6, _), (0, _), (1, _), (2, _), (3, _), (4, _), (5, _)]) rfl dX5_putAll_24 (by decide +kernel) rfl ?_
    refine sw_aload (pc' := 28) rfl dX5_putAll_26 rfl ?_
    refine sw_astore (pc' := 30) (lv' := [(8, _), (7, _), (6, _), (0, _), (1, _), (2, _), (3, _), (4, _), (5, _)]) rfl dX5_putAll_28 (by decide +kernel) rfl ?_
    refine sw_aload (pc' := 32) rfl dX5_putAll_30 rfl ?_
    refine sw_alen (pc' := 33) rfl dX5_putAll_32 zg5 (by decide +kernel) (Or.inl (by show 100 ≤ _; omega)) ?_
    refine sw_istore (pc' := 35) (lv' := [(9, _), (8, _), (7, _), (6, _), (0, _), (1, _), (2, _), (3, _), (4, _), (5, _)]) rfl dX5_putAll_33 (by decide +kernel) rfl ?_
    refine sw_iconst (pc' := 36) (v := 0) rfl dX5_putAll_35 (by decide +kernel) ?_
    refine sw_istore (pc' := 38) (lv' := [(10, _), (9, _), (8, _), (7, _), (6, _), (0, _), (1, _), (2, _), (3, _), (4, _), (5, _)]) rfl dX5_putAll_36 (by decide +kernel) rfl ?_
    have zM : MM g5 ρ τ σ th := hM.fr (fun i h1 h2 => (congrFun eg5 i).trans ((up_n (by omega)).trans ((congrFun eg4 i).trans ((up_n (by omega)).trans ((congrFun eg3 i).trans ((up_n (by omega)).trans ((congrFun eg2 i).trans ((up_n (by omega)).trans ((congrFun eg1 i).trans ((up_n (by omega)).trans (rfl)))))))))))
    have zF : FrM h g5 n := fun i q g => (congrFun eg5 i).trans ((up_n (by omega)).trans ((congrFun eg4 i).trans ((up_n (by omega)).trans ((congrFun eg3 i).trans ((up_n (by omega)).trans ((congrFun eg2 i).trans ((up_n (by omega)).trans ((congrFun eg1 i).trans ((up_n (by omega)).trans (rfl))))))))))
    obtain ⟨Gz, hGz, eGz⟩ := zM.out
    refine SW.pick [0, 3, 1, 2, 4, 5, 6, 7, 8, 9, 10] rfl (ql_pa1 zg5 (by omega) (by omega) 4 0 false rfl ?_)
    rw [Bool.false_or, wrB_cg (g := fun i => o4 (nI i) a b c e) (fun i _ hi => o4_up i (by omega))]
    refine sw_iconst (pc' := 80) (v := 0) rfl dX5_putAll_79 (by decide +kernel) ?_
    refine sw_istore (pc' := 82) (lv' := [(8, _), (10, _), (7, _), (9, _), (6, _), (0, _), (1, _), (2, _), (3, _), (4, _), (5, _)]) rfl dX5_putAll_80 (by decide +kernel) rfl ?_
    refine SW.pick [0, 2, 4, 5, 6, 7, 8, 9, 10] rfl (ql_pa2 zg5 (by omega) (by omega) (fun i hi => o4_up i hi) 4 0 rfl ?_)
    refine sw_aload_n (pc' := 104) rfl dX5_putAll_103 rfl ?_
    refine sw_iload_n (pc' := 105) rfl dX5_putAll_104 rfl ?_
    refine sw_S (M' := MX5_isNone) (d' := d - 1) (bc' := 0) (bs' := 0) (as := [_]) dX5_putAll_105 w_1165 ok_X5_isNone (q_isNone (by omega)) (by omega) (Nat.le_of_ble_eq_true rfl) (Nat.zero_le _) (Nat.zero_le _) (fun E h' n' _ z => det_x z) (det_k ?_)
    rw [show inB s 0 10 = false from no_x (N := 10) (by decide +kernel) qk1]
    show SW _ _ _ _ _ _ _ (.int 1 :: _) _ _ _
    refine sw_iload (pc' := 110) rfl dX5_putAll_108 rfl ?_
    refine sw_iload_n (pc' := 111) rfl dX5_putAll_110 rfl ?_
    refine sw_S (M' := MX5_isNone) (d' := d - 1) (bc' := 0) (bs' := 0) (as := [_]) dX5_putAll_111 w_1165 ok_X5_isNone (q_isNone (by omega)) (by omega) (Nat.le_of_ble_eq_true rfl) (Nat.zero_le _) (Nat.zero_le _) (fun E h' n' _ z => det_x z) (det_k ?_)
    rw [show inB s 0 10 = false from no_x (N := 10) (by decide +kernel) qk1]
    show SW _ _ _ _ _ _ _ (.int 1 :: _) _ _ _
    refine sw_if_ne (pc' := 117) (tgt := 135) rfl dX5_putAll_114 (by decide +kernel) (fun c114 => ?_) (fun c114 => ?_)
    · refine sw_iconst (pc' := 136) (v := 0) rfl dX5_putAll_135 (by decide +kernel) ?_
      refine sw_V (M' := MX5_isStopped) (d' := d - 1) (bc' := 0) (bs' := 0) (ci := 6) (as := [_, _, _]) dX5_putAll_136 w_1174 ok_X5_isStopped (q_isStopped (a := true) (b := (wrB (fun i => o4 (nI i) a b c e) 0 4)) (c := false) zM hA) zM.ob rfl (by omega) (Nat.le_of_ble_eq_true rfl) (Nat.zero_le _) (Nat.zero_le _) (fun E h' n' _ z => rp_x z) (rp_k (fun p136 p136ρ p136τ p136M p136A p136F => ?_))
      obtain ⟨Gp136, hGp136, eGp136⟩ := p136M.out
      show SW _ _ _ _ _ _ _ (.int 1 :: _) _ _ _
      refine sw_if_eq (pc' := 142) (tgt := 144) rfl dX5_putAll_139 (by decide +kernel) (fun c139 => ?_) (fun c139 => ?_)
      · exact absurd c139 (by decide +kernel)
      · refine sw_iconst (pc' := 143) (v := 0) rfl dX5_putAll_142 (by decide +kernel) ?_
        refine sw_ret (v := some _) ⟨dX5_putAll_143, _, rfl, rfl⟩ ?_
        rw [opPutAll, onSh_x qk1]
        exact pm_x tc_1 p136M p136A (zF.tr p136F (Nat.le_succ _)) (Nat.le_succ _)
    · exact absurd c114 (by decide +kernel)
  have hck := hI.1 k hk
  rcases Classical.em (wrB (fun i => o4 (nI i) a b c e) 0 4 = true) with qw | qw
  · refine sw_iconst (pc' := 1) (v := 4) rfl dX5_putAll_0 (by decide +kernel) ?_
    refine sw_newa (t := 0) (len := 4) (pc' := 3) rfl dX5_putAll_1 (by decide +kernel) w_101 rfl (by omega) (by omega) (by omega) ?_
    refine sw_nm (fun g6 eg6 => ?_)
    have zg6 := (congrFun eg6 n).trans (up_s (h := h) (i := n))
    refine sw_dup (pc' := 4) rfl dX5_putAll_3 rfl ?_
    refine sw_iconst (pc' := 5) (v := 0) rfl dX5_putAll_4 (by decide +kernel) ?_
    refine sw_iload_n (pc' := 6) rfl dX5_putAll_5 rfl ?_
    refine sw_iast (j := 0) (pc' := 7) rfl dX5_putAll_6 zg6 (by show 100 ≤ _; omega) rfl (by omega) (by omega) ?_
    refine sw_nm (fun g7 eg7 => ?_)
    have zg7 := (congrFun eg7 n).trans (up_s (h := g6) (i := n))
    refine sw_dup (pc' := 8) rfl dX5_putAll_7 rfl ?_
    refine sw_iconst (pc' := 9) (v := 1) rfl dX5_putAll_8 (by decide +kernel) ?_
    refine sw_iload_n (pc' := 10) rfl dX5_putAll_9 rfl ?_
    refine sw_iast (j := 1) (pc' := 11) rfl dX5_putAll_10 zg7 (by show 100 ≤ _; omega) rfl (by omega) (by omega) ?_
    refine sw_nm (fun g8 eg8 => ?_)
    have zg8 := (congrFun eg8 n).trans (up_s (h := g7) (i := n))
    refine sw_dup (pc' := 12) rfl dX5_putAll_11 rfl ?_
    refine sw_iconst (pc' := 13) (v := 2) rfl dX5_putAll_12 (by decide +kernel) ?_
    refine sw_iload (pc' := 15) rfl dX5_putAll_13 rfl ?_
    refine sw_iast (j := 2) (pc' := 16) rfl dX5_putAll_15 zg8 (by show 100 ≤ _; omega) rfl (by omega) (by omega) ?_
    refine sw_nm (fun g9 eg9 => ?_)
    have zg9 := (congrFun eg9 n).trans (up_s (h := g8) (i := n))
    refine sw_dup (pc' := 17) rfl dX5_putAll_16 rfl ?_
    refine sw_iconst (pc' := 18) (v := 3) rfl dX5_putAll_17 (by decide +kernel) ?_
    refine sw_iload (pc' := 20) rfl dX5_putAll_18 rfl ?_
    refine sw_iast (j := 3) (pc' := 21) rfl dX5_putAll_20 zg9 (by show 100 ≤ _; omega) rfl (by omega) (by omega) ?_
    refine sw_nm (fun g10 eg10 => ?_)
    have zg10 := (congrFun eg10 n).trans (up_s (h := g9) (i := n))
    refine sw_astore (pc' := 23) (lv' := [(6, _), (0, _), (1, _), (2, _), (3, _), (4, _), (5, _)]) rfl dX5_putAll_21 (by decide +kernel) rfl ?_
    refine sw_iconst (pc' := 24) (v := 0) rfl dX5_putAll_23 (by decide +kernel) ?_
    refine sw_istore (pc' := 26) (lv' := [(7, _), (6, _), (0, _), (1, _), (2, _), (3, _), (4, _), (5, _)]) rfl dX5_putAll_24 (by decide +kernel) rfl ?_
    refine sw_aload (pc' := 28) rfl dX5_putAll_26 rfl ?_
    refine sw_astore (pc' := 30) (lv' := [(8, _), (7, _), (6, _), (0, _), (1, _), (2, _), (3, _), (4, _), (5, _)]) rfl dX5_putAll_28 (by decide +kernel) rfl ?_
    refine sw_aload (pc' := 32) rfl dX5_putAll_30 rfl ?_
    refine sw_alen (pc' := 33) rfl dX5_putAll_32 zg10 (by decide +kernel) (Or.inl (by show 100 ≤ _; omega)) ?_
    refine sw_istore (pc' := 35) (lv' := [(9, _), (8, _), (7, _), (6, _), (0, _), (1, _), (2, _), (3, _), (4, _), (5, _)]) rfl dX5_putAll_33 (by decide +kernel) rfl ?_
    refine sw_iconst (pc' := 36) (v := 0) rfl dX5_putAll_35 (by decide +kernel) ?_
    refine sw_istore (pc' := 38) (lv' := [(10, _), (9, _), (8, _), (7, _), (6, _), (0, _), (1, _), (2, _), (3, _), (4, _), (5, _)]) rfl dX5_putAll_36 (by decide +kernel) rfl ?_
    have zM : MM g10 ρ τ σ th := hM.fr (fun i h1 h2 => (congrFun eg10 i).trans ((up_n (by omega)).trans ((congrFun eg9 i).trans ((up_n (by omega)).trans ((congrFun eg8 i).trans ((up_n (by omega)).trans ((congrFun eg7 i).trans ((up_n (by omega)).trans ((congrFun eg6 i).trans ((up_n (by omega)).trans (rfl)))))))))))
    have zF : FrM h g10 n := fun i q g => (congrFun eg10 i).trans ((up_n (by omega)).trans ((congrFun eg9 i).trans ((up_n (by omega)).trans ((congrFun eg8 i).trans ((up_n (by omega)).trans ((congrFun eg7 i).trans ((up_n (by omega)).trans ((congrFun eg6 i).trans ((up_n (by omega)).trans (rfl))))))))))
    obtain ⟨Gz, hGz, eGz⟩ := zM.out
    refine SW.pick [0, 3, 1, 2, 4, 5, 6, 7, 8, 9, 10] rfl (ql_pa1 zg10 (by omega) (by omega) 4 0 false rfl ?_)
    rw [Bool.false_or, wrB_cg (g := fun i => o4 (nI i) a b c e) (fun i _ hi => o4_up i (by omega))]
    rw [show wrB (fun i => o4 (nI i) a b c e) 0 4 = true from qw]
    refine sw_iconst (pc' := 80) (v := 0) rfl dX5_putAll_79 (by decide +kernel) ?_
    refine sw_istore (pc' := 82) (lv' := [(8, _), (10, _), (7, _), (9, _), (6, _), (0, _), (1, _), (2, _), (3, _), (4, _), (5, _)]) rfl dX5_putAll_80 (by decide +kernel) rfl ?_
    refine SW.pick [0, 2, 4, 5, 6, 7, 8, 9, 10] rfl (ql_pa2 zg10 (by omega) (by omega) (fun i hi => o4_up i hi) 4 0 rfl ?_)
    refine sw_aload_n (pc' := 104) rfl dX5_putAll_103 rfl ?_
    refine sw_iload_n (pc' := 105) rfl dX5_putAll_104 rfl ?_
    refine sw_S (M' := MX5_isNone) (d' := d - 1) (bc' := 0) (bs' := 0) (as := [_]) dX5_putAll_105 w_1165 ok_X5_isNone (q_isNone (by omega)) (by omega) (Nat.le_of_ble_eq_true rfl) (Nat.zero_le _) (Nat.zero_le _) (fun E h' n' _ z => det_x z) (det_k ?_)
    rw [show inB (nI k) 0 10 = true from inB_k (N := 10) (by omega) (by decide +kernel)]
    show SW _ _ _ _ _ _ _ (.int 0 :: _) _ _ _
    refine sw_iload (pc' := 110) rfl dX5_putAll_108 rfl ?_
    refine sw_iload_n (pc' := 111) rfl dX5_putAll_110 rfl ?_
    refine sw_S (M' := MX5_isNone) (d' := d - 1) (bc' := 0) (bs' := 0) (as := [_]) dX5_putAll_111 w_1165 ok_X5_isNone (q_isNone (by omega)) (by omega) (Nat.le_of_ble_eq_true rfl) (Nat.zero_le _) (Nat.zero_le _) (fun E h' n' _ z => det_x z) (det_k ?_)
    rw [show inB (nI k) 0 10 = true from inB_k (N := 10) (by omega) (by decide +kernel)]
    show SW _ _ _ _ _ _ _ (.int 0 :: _) _ _ _
    refine sw_if_ne (pc' := 117) (tgt := 135) rfl dX5_putAll_114 (by decide +kernel) (fun c114 => ?_) (fun c114 => ?_)
    · exact absurd c114 (by decide +kernel)
    · refine sw_aload_n (pc' := 118) rfl dX5_putAll_117 rfl ?_
      refine sw_getf (ci := 6) (k := 4) (pc' := 121) rfl dX5_putAll_118 (by decide +kernel) w_1117 zM.ob rfl ?_
      refine sw_iload_n (pc' := 122) rfl dX5_putAll_121 rfl ?_
      refine sw_iald (j := k) (pc' := 123) rfl dX5_putAll_122 zM.sz rfl (by omega) (by decide +kernel) ?_
      refine sw_iload (pc' := 125) rfl dX5_putAll_123 rfl ?_
      refine sw_iadd (pc' := 126) rfl dX5_putAll_125 ?_
      rw [show (nI (σ.2.1 k)) + (nI (cfN a b c e 0 4)) = nI (σ.2.1 k + (cfN a b c e 0 4)) from nI_add _ _]
      refine sw_bipush (pc' := 128) (v := 12) rfl dX5_putAll_126 (by decide +kernel) ?_
      refine sw_icmp_le (pc' := 131) (tgt := 135) rfl dX5_putAll_128 (by decide +kernel) (fun c128 => ?_) (fun c128 => ?_)
      · refine sw_iconst (pc' := 136) (v := 0) rfl dX5_putAll_135 (by decide +kernel) ?_
        refine sw_V (M' := MX5_isStopped) (d' := d - 1) (bc' := 0) (bs' := 0) (ci := 6) (as := [_, _, _]) dX5_putAll_136 w_1174 ok_X5_isStopped (q_isStopped (a := false) (b := true) (c := false) zM hA) zM.ob rfl (by omega) (Nat.le_of_ble_eq_true rfl) (Nat.zero_le _) (Nat.zero_le _) (fun E h' n' _ z => rp_x z) (rp_k (fun p136 p136ρ p136τ p136M p136A p136F => ?_))
        obtain ⟨Gp136, hGp136, eGp136⟩ := p136M.out
        show SW _ _ _ _ _ _ _ (.int 1 :: _) _ _ _
        refine sw_if_eq (pc' := 142) (tgt := 144) rfl dX5_putAll_139 (by decide +kernel) (fun c139 => ?_) (fun c139 => ?_)
        · exact absurd c139 (by decide +kernel)
        · refine sw_iconst (pc' := 143) (v := 0) rfl dX5_putAll_142 (by decide +kernel) ?_
          refine sw_ret (v := some _) ⟨dX5_putAll_143, _, rfl, rfl⟩ ?_
          rw [opPutAll, onSh_k hk, pa_t qw]
          exact pm_x (tc_2 sAI) p136M p136A (zF.tr p136F (Nat.le_succ _)) (Nat.le_succ _)
      · refine sw_iconst (pc' := 132) (v := 1) rfl dX5_putAll_131 (by decide +kernel) ?_
        refine sw_goto (tgt := 136) dX5_putAll_132 (by decide +kernel) ?_
        refine sw_V (M' := MX5_isStopped) (d' := d - 1) (bc' := 0) (bs' := 0) (ci := 6) (as := [_, _, _]) dX5_putAll_136 w_1174 ok_X5_isStopped (q_isStopped (a := false) (b := true) (c := true) zM hA) zM.ob rfl (by omega) (Nat.le_of_ble_eq_true rfl) (Nat.zero_le _) (Nat.zero_le _) (fun E h' n' _ z => rp_x z) (rp_k (fun p136 p136ρ p136τ p136M p136A p136F => ?_))
        obtain ⟨Gp136, hGp136, eGp136⟩ := p136M.out
        show SW _ _ _ _ _ _ _ (.int 1 :: _) _ _ _
        refine sw_if_eq (pc' := 142) (tgt := 144) rfl dX5_putAll_139 (by decide +kernel) (fun c139 => ?_) (fun c139 => ?_)
        · exact absurd c139 (by decide +kernel)
        · refine sw_iconst (pc' := 143) (v := 0) rfl dX5_putAll_142 (by decide +kernel) ?_
          refine sw_ret (v := some _) ⟨dX5_putAll_143, _, rfl, rfl⟩ ?_
          rw [opPutAll, onSh_k hk, pa_t qw]
          exact pm_x (tc_2 sAI) p136M p136A (zF.tr p136F (Nat.le_succ _)) (Nat.le_succ _)
  rcases Classical.em (12 < nI (σ.2.1 k) + nI (cfN a b c e 0 4)) with qr | qr
  · have hroom : 12 < σ.2.1 k + (cfN a b c e 0 4) := (roomS hck (by omega)).mp qr
    refine sw_iconst (pc' := 1) (v := 4) rfl dX5_putAll_0 (by decide +kernel) ?_
    refine sw_newa (t := 0) (len := 4) (pc' := 3) rfl dX5_putAll_1 (by decide +kernel) w_101 rfl (by omega) (by omega) (by omega) ?_
    refine sw_nm (fun g11 eg11 => ?_)
    have zg11 := (congrFun eg11 n).trans (up_s (h := h) (i := n))
    refine sw_dup (pc' := 4) rfl dX5_putAll_3 rfl ?_
    refine sw_iconst (pc' := 5) (v := 0) rfl dX5_putAll_4 (by decide +kernel) ?_
    refine sw_iload_n (pc' := 6) rfl dX5_putAll_5 rfl ?_
    refine sw_iast (j := 0) (pc' := 7) rfl dX5_putAll_6 zg11 (by show 100 ≤ _; omega) rfl (by omega) (by omega) ?_
    refine sw_nm (fun g12 eg12 => ?_)
    have zg12 := (congrFun eg12 n).trans (up_s (h := g11) (i := n))
    refine sw_dup (pc' := 8) rfl dX5_putAll_7 rfl ?_
    refine sw_iconst (pc' := 9) (v := 1) rfl dX5_putAll_8 (by decide +kernel) ?_
    refine sw_iload_n (pc' := 10) rfl dX5_putAll_9 rfl ?_
    refine sw_iast (j := 1) (pc' := 11) rfl dX5_putAll_10 zg12 (by show 100 ≤ _; omega) rfl (by omega) (by omega) ?_
    refine sw_nm (fun g13 eg13 => ?_)
    have zg13 := (congrFun eg13 n).trans (up_s (h := g12) (i := n))
    refine sw_dup (pc' := 12) rfl dX5_putAll_11 rfl ?_
    refine sw_iconst (pc' := 13) (v := 2) rfl dX5_putAll_12 (by decide +kernel) ?_
    refine sw_iload (pc' := 15) rfl dX5_putAll_13 rfl ?_
    refine sw_iast (j := 2) (pc' := 16) rfl dX5_putAll_15 zg13 (by show 100 ≤ _; omega) rfl (by omega) (by omega) ?_
    refine sw_nm (fun g14 eg14 => ?_)
    have zg14 := (congrFun eg14 n).trans (up_s (h := g13) (i := n))
    refine sw_dup (pc' := 17) rfl dX5_putAll_16 rfl ?_
    refine sw_iconst (pc' := 18) (v := 3) rfl dX5_putAll_17 (by decide +kernel) ?_
    refine sw_iload (pc' := 20) rfl dX5_putAll_18 rfl ?_
    refine sw_iast (j := 3) (pc' := 21) rfl dX5_putAll_20 zg14 (by show 100 ≤ _; omega) rfl (by omega) (by omega) ?_
    refine sw_nm (fun g15 eg15 => ?_)
    have zg15 := (congrFun eg15 n).trans (up_s (h := g14) (i := n))
    refine sw_astore (pc' := 23) (lv' := [(6, _), (0, _), (1, _), (2, _), (3, _), (4, _), (5, _)]) rfl dX5_putAll_21 (by decide +kernel) rfl ?_
    refine sw_iconst (pc' := 24) (v := 0) rfl dX5_putAll_23 (by decide +kernel) ?_
    refine sw_istore (pc' := 26) (lv' := [(7, _), (6, _), (0, _), (1, _), (2, _), (3, _), (4, _), (5, _)]) rfl dX5_putAll_24 (by decide +kernel) rfl ?_
    refine sw_aload (pc' := 28) rfl dX5_putAll_26 rfl ?_
    refine sw_astore (pc' := 30) (lv' := [(8, _), (7, _), (6, _), (0, _), (1, _), (2, _), (3, _), (4, _), (5, _)]) rfl dX5_putAll_28 (by decide +kernel) rfl ?_
    refine sw_aload (pc' := 32) rfl dX5_putAll_30 rfl ?_
    refine sw_alen (pc' := 33) rfl dX5_putAll_32 zg15 (by decide +kernel) (Or.inl (by show 100 ≤ _; omega)) ?_
    refine sw_istore (pc' := 35) (lv' := [(9, _), (8, _), (7, _), (6, _), (0, _), (1, _), (2, _), (3, _), (4, _), (5, _)]) rfl dX5_putAll_33 (by decide +kernel) rfl ?_
    refine sw_iconst (pc' := 36) (v := 0) rfl dX5_putAll_35 (by decide +kernel) ?_
    refine sw_istore (pc' := 38) (lv' := [(10, _), (9, _), (8, _), (7, _), (6, _), (0, _), (1, _), (2, _), (3, _), (4, _), (5, _)]) rfl dX5_putAll_36 (by decide +kernel) rfl ?_
    have zM : MM g15 ρ τ σ th := hM.fr (fun i h1 h2 => (congrFun eg15 i).trans ((up_n (by omega)).trans ((congrFun eg14 i).trans ((up_n (by omega)).trans ((congrFun eg13 i).trans ((up_n (by omega)).trans ((congrFun eg12 i).trans ((up_n (by omega)).trans ((congrFun eg11 i).trans ((up_n (by omega)).trans (rfl)))))))))))
    have zF : FrM h g15 n := fun i q g => (congrFun eg15 i).trans ((up_n (by omega)).trans ((congrFun eg14 i).trans ((up_n (by omega)).trans ((congrFun eg13 i).trans ((up_n (by omega)).trans ((congrFun eg12 i).trans ((up_n (by omega)).trans ((congrFun eg11 i).trans ((up_n (by omega)).trans (rfl))))))))))
    obtain ⟨Gz, hGz, eGz⟩ := zM.out
    refine SW.pick [0, 3, 1, 2, 4, 5, 6, 7, 8, 9, 10] rfl (ql_pa1 zg15 (by omega) (by omega) 4 0 false rfl ?_)
    rw [Bool.false_or, wrB_cg (g := fun i => o4 (nI i) a b c e) (fun i _ hi => o4_up i (by omega))]
    rw [show wrB (fun i => o4 (nI i) a b c e) 0 4 = false from by cases g : wrB (fun i => o4 (nI i) a b c e) 0 4 with | true => exact absurd g qw | false => rfl]
    refine sw_iconst (pc' := 80) (v := 0) rfl dX5_putAll_79 (by decide +kernel) ?_
    refine sw_istore (pc' := 82) (lv' := [(8, _), (10, _), (7, _), (9, _), (6, _), (0, _), (1, _), (2, _), (3, _), (4, _), (5, _)]) rfl dX5_putAll_80 (by decide +kernel) rfl ?_
    refine SW.pick [0, 2, 4, 5, 6, 7, 8, 9, 10] rfl (ql_pa2 zg15 (by omega) (by omega) (fun i hi => o4_up i hi) 4 0 rfl ?_)
    refine sw_aload_n (pc' := 104) rfl dX5_putAll_103 rfl ?_
    refine sw_iload_n (pc' := 105) rfl dX5_putAll_104 rfl ?_
    refine sw_S (M' := MX5_isNone) (d' := d - 1) (bc' := 0) (bs' := 0) (as := [_]) dX5_putAll_105 w_1165 ok_X5_isNone (q_isNone (by omega)) (by omega) (Nat.le_of_ble_eq_true rfl) (Nat.zero_le _) (Nat.zero_le _) (fun E h' n' _ z => det_x z) (det_k ?_)
    rw [show inB (nI k) 0 10 = true from inB_k (N := 10) (by omega) (by decide +kernel)]
    show SW _ _ _ _ _ _ _ (.int 0 :: _) _ _ _
    refine sw_iload (pc' := 110) rfl dX5_putAll_108 rfl ?_
    refine sw_iload_n (pc' := 111) rfl dX5_putAll_110 rfl ?_
    refine sw_S (M' := MX5_isNone) (d' := d - 1) (bc' := 0) (bs' := 0) (as := [_]) dX5_putAll_111 w_1165 ok_X5_isNone (q_isNone (by omega)) (by omega) (Nat.le_of_ble_eq_true rfl) (Nat.zero_le _) (Nat.zero_le _) (fun E h' n' _ z => det_x z) (det_k ?_)
    rw [show inB (nI k) 0 10 = true from inB_k (N := 10) (by omega) (by decide +kernel)]
    show SW _ _ _ _ _ _ _ (.int 0 :: _) _ _ _
    refine sw_if_ne (pc' := 117) (tgt := 135) rfl dX5_putAll_114 (by decide +kernel) (fun c114 => ?_) (fun c114 => ?_)
    · exact absurd c114 (by decide +kernel)
    · refine sw_aload_n (pc' := 118) rfl dX5_putAll_117 rfl ?_
      refine sw_getf (ci := 6) (k := 4) (pc' := 121) rfl dX5_putAll_118 (by decide +kernel) w_1117 zM.ob rfl ?_
      refine sw_iload_n (pc' := 122) rfl dX5_putAll_121 rfl ?_
      refine sw_iald (j := k) (pc' := 123) rfl dX5_putAll_122 zM.sz rfl (by omega) (by decide +kernel) ?_
      refine sw_iload (pc' := 125) rfl dX5_putAll_123 rfl ?_
      refine sw_iadd (pc' := 126) rfl dX5_putAll_125 ?_
      rw [show (nI (σ.2.1 k)) + (nI (cfN a b c e 0 4)) = nI (σ.2.1 k + (cfN a b c e 0 4)) from nI_add _ _]
      refine sw_bipush (pc' := 128) (v := 12) rfl dX5_putAll_126 (by decide +kernel) ?_
      refine sw_icmp_le (pc' := 131) (tgt := 135) rfl dX5_putAll_128 (by decide +kernel) (fun c128 => ?_) (fun c128 => ?_)
      · exact absurd ((le12 (by omega)).mp c128) (by omega)
      · refine sw_iconst (pc' := 132) (v := 1) rfl dX5_putAll_131 (by decide +kernel) ?_
        refine sw_goto (tgt := 136) dX5_putAll_132 (by decide +kernel) ?_
        refine sw_V (M' := MX5_isStopped) (d' := d - 1) (bc' := 0) (bs' := 0) (ci := 6) (as := [_, _, _]) dX5_putAll_136 w_1174 ok_X5_isStopped (q_isStopped (a := false) (b := false) (c := true) zM hA) zM.ob rfl (by omega) (Nat.le_of_ble_eq_true rfl) (Nat.zero_le _) (Nat.zero_le _) (fun E h' n' _ z => rp_x z) (rp_k (fun p136 p136ρ p136τ p136M p136A p136F => ?_))
        obtain ⟨Gp136, hGp136, eGp136⟩ := p136M.out
        show SW _ _ _ _ _ _ _ (.int 1 :: _) _ _ _
        refine sw_if_eq (pc' := 142) (tgt := 144) rfl dX5_putAll_139 (by decide +kernel) (fun c139 => ?_) (fun c139 => ?_)
        · exact absurd c139 (by decide +kernel)
        · refine sw_iconst (pc' := 143) (v := 0) rfl dX5_putAll_142 (by decide +kernel) ?_
          refine sw_ret (v := some _) ⟨dX5_putAll_143, _, rfl, rfl⟩ ?_
          rw [opPutAll, onSh_k hk, pa_f (by cases g : wrB (fun i => o4 (nI i) a b c e) 0 4 with | true => exact absurd g qw | false => rfl), if_pos qr]
          exact pm_x (tc_3 sSI sSA) p136M p136A (zF.tr p136F (Nat.le_succ _)) (Nat.le_succ _)
  have hroom : σ.2.1 k + (cfN a b c e 0 4) ≤ 12 := Nat.le_of_not_lt (fun g => qr ((roomS hck (by omega)).mpr g))
  refine sw_iconst (pc' := 1) (v := 4) rfl dX5_putAll_0 (by decide +kernel) ?_
  refine sw_newa (t := 0) (len := 4) (pc' := 3) rfl dX5_putAll_1 (by decide +kernel) w_101 rfl (by omega) (by omega) (by omega) ?_
  refine sw_nm (fun g16 eg16 => ?_)
  have zg16 := (congrFun eg16 n).trans (up_s (h := h) (i := n))
  refine sw_dup (pc' := 4) rfl dX5_putAll_3 rfl ?_
  refine sw_iconst (pc' := 5) (v := 0) rfl dX5_putAll_4 (by decide +kernel) ?_
  refine sw_iload_n (pc' := 6) rfl dX5_putAll_5 rfl ?_
  refine sw_iast (j := 0) (pc' := 7) rfl dX5_putAll_6 zg16 (by show 100 ≤ _; omega) rfl (by omega) (by omega) ?_
  refine sw_nm (fun g17 eg17 => ?_)
  have zg17 := (congrFun eg17 n).trans (up_s (h := g16) (i := n))
  refine sw_dup (pc' := 8) rfl dX5_putAll_7 rfl ?_
  refine sw_iconst (pc' := 9) (v := 1) rfl dX5_putAll_8 (by decide +kernel) ?_
  refine sw_iload_n (pc' := 10) rfl dX5_putAll_9 rfl ?_
  refine sw_iast (j := 1) (pc' := 11) rfl dX5_putAll_10 zg17 (by show 100 ≤ _; omega) rfl (by omega) (by omega) ?_
  refine sw_nm (fun g18 eg18 => ?_)
  have zg18 := (congrFun eg18 n).trans (up_s (h := g17) (i := n))
  refine sw_dup (pc' := 12) rfl dX5_putAll_11 rfl ?_
  refine sw_iconst (pc' := 13) (v := 2) rfl dX5_putAll_12 (by decide +kernel) ?_
  refine sw_iload (pc' := 15) rfl dX5_putAll_13 rfl ?_
  refine sw_iast (j := 2) (pc' := 16) rfl dX5_putAll_15 zg18 (by show 100 ≤ _; omega) rfl (by omega) (by omega) ?_
  refine sw_nm (fun g19 eg19 => ?_)
  have zg19 := (congrFun eg19 n).trans (up_s (h := g18) (i := n))
  refine sw_dup (pc' := 17) rfl dX5_putAll_16 rfl ?_
  refine sw_iconst (pc' := 18) (v := 3) rfl dX5_putAll_17 (by decide +kernel) ?_
  refine sw_iload (pc' := 20) rfl dX5_putAll_18 rfl ?_
  refine sw_iast (j := 3) (pc' := 21) rfl dX5_putAll_20 zg19 (by show 100 ≤ _; omega) rfl (by omega) (by omega) ?_
  refine sw_nm (fun g20 eg20 => ?_)
  have zg20 := (congrFun eg20 n).trans (up_s (h := g19) (i := n))
  refine sw_astore (pc' := 23) (lv' := [(6, _), (0, _), (1, _), (2, _), (3, _), (4, _), (5, _)]) rfl dX5_putAll_21 (by decide +kernel) rfl ?_
  refine sw_iconst (pc' := 24) (v := 0) rfl dX5_putAll_23 (by decide +kernel) ?_
  refine sw_istore (pc' := 26) (lv' := [(7, _), (6, _), (0, _), (1, _), (2, _), (3, _), (4, _), (5, _)]) rfl dX5_putAll_24 (by decide +kernel) rfl ?_
  refine sw_aload (pc' := 28) rfl dX5_putAll_26 rfl ?_
  refine sw_astore (pc' := 30) (lv' := [(8, _), (7, _), (6, _), (0, _), (1, _), (2, _), (3, _), (4, _), (5, _)]) rfl dX5_putAll_28 (by decide +kernel) rfl ?_
  refine sw_aload (pc' := 32) rfl dX5_putAll_30 rfl ?_
  refine sw_alen (pc' := 33) rfl dX5_putAll_32 zg20 (by decide +kernel) (Or.inl (by show 100 ≤ _; omega)) ?_
  refine sw_istore (pc' := 35) (lv' := [(9, _), (8, _), (7, _), (6, _), (0, _), (1, _), (2, _), (3, _), (4, _), (5, _)]) rfl dX5_putAll_33 (by decide +kernel) rfl ?_
  refine sw_iconst (pc' := 36) (v := 0) rfl dX5_putAll_35 (by decide +kernel) ?_
  refine sw_istore (pc' := 38) (lv' := [(10, _), (9, _), (8, _), (7, _), (6, _), (0, _), (1, _), (2, _), (3, _), (4, _), (5, _)]) rfl dX5_putAll_36 (by decide +kernel) rfl ?_
  have zM : MM g20 ρ τ σ th := hM.fr (fun i h1 h2 => (congrFun eg20 i).trans ((up_n (by omega)).trans ((congrFun eg19 i).trans ((up_n (by omega)).trans ((congrFun eg18 i).trans ((up_n (by omega)).trans ((congrFun eg17 i).trans ((up_n (by omega)).trans ((congrFun eg16 i).trans ((up_n (by omega)).trans (rfl)))))))))))
  have zF : FrM h g20 n := fun i q g => (congrFun eg20 i).trans ((up_n (by omega)).trans ((congrFun eg19 i).trans ((up_n (by omega)).trans ((congrFun eg18 i).trans ((up_n (by omega)).trans ((congrFun eg17 i).trans ((up_n (by omega)).trans ((congrFun eg16 i).trans ((up_n (by omega)).trans (rfl))))))))))
  obtain ⟨Gz, hGz, eGz⟩ := zM.out
  refine SW.pick [0, 3, 1, 2, 4, 5, 6, 7, 8, 9, 10] rfl (ql_pa1 zg20 (by omega) (by omega) 4 0 false rfl ?_)
  rw [Bool.false_or, wrB_cg (g := fun i => o4 (nI i) a b c e) (fun i _ hi => o4_up i (by omega))]
  rw [show wrB (fun i => o4 (nI i) a b c e) 0 4 = false from by cases g : wrB (fun i => o4 (nI i) a b c e) 0 4 with | true => exact absurd g qw | false => rfl]
  refine sw_iconst (pc' := 80) (v := 0) rfl dX5_putAll_79 (by decide +kernel) ?_
  refine sw_istore (pc' := 82) (lv' := [(8, _), (10, _), (7, _), (9, _), (6, _), (0, _), (1, _), (2, _), (3, _), (4, _), (5, _)]) rfl dX5_putAll_80 (by decide +kernel) rfl ?_
  refine SW.pick [0, 2, 4, 5, 6, 7, 8, 9, 10] rfl (ql_pa2 zg20 (by omega) (by omega) (fun i hi => o4_up i hi) 4 0 rfl ?_)
  refine sw_aload_n (pc' := 104) rfl dX5_putAll_103 rfl ?_
  refine sw_iload_n (pc' := 105) rfl dX5_putAll_104 rfl ?_
  refine sw_S (M' := MX5_isNone) (d' := d - 1) (bc' := 0) (bs' := 0) (as := [_]) dX5_putAll_105 w_1165 ok_X5_isNone (q_isNone (by omega)) (by omega) (Nat.le_of_ble_eq_true rfl) (Nat.zero_le _) (Nat.zero_le _) (fun E h' n' _ z => det_x z) (det_k ?_)
  rw [show inB (nI k) 0 10 = true from inB_k (N := 10) (by omega) (by decide +kernel)]
  show SW _ _ _ _ _ _ _ (.int 0 :: _) _ _ _
  refine sw_iload (pc' := 110) rfl dX5_putAll_108 rfl ?_
  refine sw_iload_n (pc' := 111) rfl dX5_putAll_110 rfl ?_
  refine sw_S (M' := MX5_isNone) (d' := d - 1) (bc' := 0) (bs' := 0) (as := [_]) dX5_putAll_111 w_1165 ok_X5_isNone (q_isNone (by omega)) (by omega) (Nat.le_of_ble_eq_true rfl) (Nat.zero_le _) (Nat.zero_le _) (fun E h' n' _ z => det_x z) (det_k ?_)
  rw [show inB (nI k) 0 10 = true from inB_k (N := 10) (by omega) (by decide +kernel)]
  show SW _ _ _ _ _ _ _ (.int 0 :: _) _ _ _
  refine sw_if_ne (pc' := 117) (tgt := 135) rfl dX5_putAll_114 (by decide +kernel) (fun c114 => ?_) (fun c114 => ?_)
  · exact absurd c114 (by decide +kernel)
  · refine sw_aload_n (pc' := 118) rfl dX5_putAll_117 rfl ?_
    refine sw_getf (ci := 6) (k := 4) (pc' := 121) rfl dX5_putAll_118 (by decide +kernel) w_1117 zM.ob rfl ?_
    refine sw_iload_n (pc' := 122) rfl dX5_putAll_121 rfl ?_
    refine sw_iald (j := k) (pc' := 123) rfl dX5_putAll_122 zM.sz rfl (by omega) (by decide +kernel) ?_
    refine sw_iload (pc' := 125) rfl dX5_putAll_123 rfl ?_
    refine sw_iadd (pc' := 126) rfl dX5_putAll_125 ?_
    rw [show (nI (σ.2.1 k)) + (nI (cfN a b c e 0 4)) = nI (σ.2.1 k + (cfN a b c e 0 4)) from nI_add _ _]
    refine sw_bipush (pc' := 128) (v := 12) rfl dX5_putAll_126 (by decide +kernel) ?_
    refine sw_icmp_le (pc' := 131) (tgt := 135) rfl dX5_putAll_128 (by decide +kernel) (fun c128 => ?_) (fun c128 => ?_)
    · refine sw_iconst (pc' := 136) (v := 0) rfl dX5_putAll_135 (by decide +kernel) ?_
      refine sw_V (M' := MX5_isStopped) (d' := d - 1) (bc' := 0) (bs' := 0) (ci := 6) (as := [_, _, _]) dX5_putAll_136 w_1174 ok_X5_isStopped (q_isStopped (a := false) (b := false) (c := false) zM hA) zM.ob rfl (by omega) (Nat.le_of_ble_eq_true rfl) (Nat.zero_le _) (Nat.zero_le _) (fun E h' n' _ z => rp_x z) (rp_k (fun p136 p136ρ p136τ p136M p136A p136F => ?_))
      obtain ⟨Gp136, hGp136, eGp136⟩ := p136M.out
      show SW _ _ _ _ _ _ _ (.int 0 :: _) _ _ _
      refine sw_if_eq (pc' := 142) (tgt := 144) rfl dX5_putAll_139 (by decide +kernel) (fun c139 => ?_) (fun c139 => ?_)
      · refine sw_iload_n (pc' := 145) rfl dX5_putAll_144 rfl ?_
        refine sw_S (M' := MX5_isTable) (d' := d - 1) (bc' := 0) (bs' := 0) (as := [_]) dX5_putAll_145 w_1178 ok_X5_isTable (q_isTable) (by omega) (Nat.le_of_ble_eq_true rfl) (Nat.zero_le _) (Nat.zero_le _) (fun E h' n' _ z => det_x z) (det_k ?_)
        rw [tb_k (k := k) (by omega)]
        refine sw_istore (pc' := 150) (lv' := [(9, _), (8, _), (7, _), (6, _), (0, _), (1, _), (2, _), (3, _), (4, _), (5, _)]) rfl dX5_putAll_148 (by decide +kernel) rfl ?_
        refine sw_iconst (pc' := 151) (v := 0) rfl dX5_putAll_150 (by decide +kernel) ?_
        refine sw_istore (pc' := 153) (lv' := [(10, _), (9, _), (8, _), (7, _), (6, _), (0, _), (1, _), (2, _), (3, _), (4, _), (5, _)]) rfl dX5_putAll_151 (by decide +kernel) rfl ?_
        refine SW.pick [0, 1, 2, 4, 5, 6, 7, 8, 9, 10] rfl (ql_pa3 (s := 0) ((p136F n (Or.inr (by omega)) (by omega)).trans zg20) (by omega) (by omega) (fun i hi => o4_up i hi) hk (by omega) (cfN a b c e 0 4) 0 _ (by omega) ?_)
        refine sw_iload (pc' := 195) rfl dX5_putAll_193 rfl ?_
        refine sw_if_eq (pc' := 198) (tgt := 205) rfl dX5_putAll_195 (by decide +kernel) (fun c195 => ?_) (fun c195 => ?_)
        · refine sw_aload_n (pc' := 206) rfl dX5_putAll_205 rfl ?_
          refine sw_iload_n (pc' := 207) rfl dX5_putAll_206 rfl ?_
          refine sw_aload (pc' := 209) rfl dX5_putAll_207 rfl ?_
          refine sw_iload (pc' := 211) rfl dX5_putAll_209 rfl ?_
          refine sw_V (M' := MX5_comeAll) (d' := d - 1) (bc' := 0) (bs' := 0) (ci := 6) (as := [_, _, _]) dX5_putAll_211 w_1207 ok_X5_comeAll (q_comeAll p136M p136A (k := k) (m9 := (cfN a b c e 0 4)) hk (fun e => e ▸ hI.2.2.2.1) hroom (by omega) (by omega) ((p136F n (Or.inr (by omega)) (by omega)).trans zg20) (by decide +kernel) (by omega) (by omega)) p136M.ob rfl (by omega) (Nat.le_of_ble_eq_true rfl) (Nat.zero_le _) (Nat.zero_le _) (fun E h' n' _ z => rp_x z) (rp_k (fun p211 p211ρ p211τ p211M p211A p211F => ?_))
          obtain ⟨Gp211, hGp211, eGp211⟩ := p211M.out
          refine sw_ret (v := some _) ⟨dX5_putAll_214, _, rfl, rfl⟩ ?_
          have g := bI_0 c195
          have k5 : ¬ kdO k = 5 := fun e => by rw [decide_eq_true e, Bool.true_or] at g; cases g
          have tf : ¬ taB k a b c e 0 (cfN a b c e 0 4) = false := fun e => by rw [e, Bool.not_false, Bool.or_true] at g; cases g
          rw [opPutAll, onSh_k hk, pa_f (by cases g : wrB (fun i => o4 (nI i) a b c e) 0 4 with | true => exact absurd g qw | false => rfl), if_neg qr, if_neg k5, if_neg tf]
          rw [← caM_up (f := fun _ => 0) (by omega)]
          exact pm_k p211M p211A ((zF.tr p136F (Nat.le_succ _)).tr p211F (Nat.le_succ _)) (Nat.le_succ _)
        · refine sw_aload_n (pc' := 199) rfl dX5_putAll_198 rfl ?_
          refine sw_V (M' := MX5_no) (d' := d - 1) (bc' := 0) (bs' := 0) (ci := 6) (as := []) dX5_putAll_199 w_1184 ok_X5_no (q_no p136M p136A) p136M.ob rfl (by omega) (Nat.le_of_ble_eq_true rfl) (Nat.zero_le _) (Nat.zero_le _) (fun E h' n' _ z => rp_x z) (rp_k (fun p199 p199ρ p199τ p199M p199A p199F => ?_))
          obtain ⟨Gp199, hGp199, eGp199⟩ := p199M.out
          refine sw_goto (tgt := 214) dX5_putAll_202 (by decide +kernel) ?_
          refine sw_ret (v := some _) ⟨dX5_putAll_214, _, rfl, rfl⟩ ?_
          have g := bI_1 c195
          rw [opPutAll, onSh_k hk, pa_f (by cases g : wrB (fun i => o4 (nI i) a b c e) 0 4 with | true => exact absurd g qw | false => rfl), if_neg qr]
          by_cases k5 : kdO k = 5
          · rw [if_pos k5]
            exact pm_k p199M p199A ((zF.tr p136F (Nat.le_succ _)).tr p199F (Nat.le_succ _)) (Nat.le_succ _)
          have tf : taB k a b c e 0 (cfN a b c e 0 4) = false := by
            rw [decide_eq_false k5, Bool.false_or] at g
            simpa using g
          rw [if_neg k5, if_pos tf]
          exact pm_k p199M p199A ((zF.tr p136F (Nat.le_succ _)).tr p199F (Nat.le_succ _)) (Nat.le_succ _)
      · exact absurd c139 (by decide +kernel)
    · exact absurd ((le12 (by omega)).mpr (by omega)) c128
theorem ql_dg1 {d n0 B S9 : Nat} {h0 : AH} {ρ : Nat → Nat → Int32} {τ : Nat → Int32} {σ : CS} {Post : ARes → AH → Nat → Prop} (hA : AG ρ τ σ) (hI : Iv σ) (hd : 4 ≤ d) (hn0 : 158 ≤ n0) (m : Nat) : ∀ (j : Nat) (v : Int64) (bc bs n : Nat) (h : AH), j + m = 6 → (∀ (bc bs n : Nat) (h : AH), MM h ρ τ σ 0 → FrM h0 h n0 → n0 ≤ n → B ≤ bc → S9 ≤ bs → SW SR0 MX5_digest d bc bs 35 [(3, .int (nI 6)), (1, .long (dgN (fun x => hoV σ (nI x)) j m v)), (0, .ref 135)] [] h n Post) → MM h ρ τ σ 0 → FrM h0 h n0 → n0 ≤ n → B + m ≤ bc → S9 + 12 * m ≤ bs → SW SR0 MX5_digest d bc bs 11 [(3, .int (nI j)), (1, .long v), (0, .ref 135)] [] h n Post := by
  induction m with
  | zero =>
    intro j v bc bs n h hj fq hM hF hn hb1 hb2
    obtain ⟨G0, hG0, eG0⟩ := hM.out
    have hj6 : j = 6 := by omega
    subst hj6
    refine sw_iload_n (pc' := 12) rfl dX5_digest_11 rfl ?_
    refine sw_iconst (pc' := 13) (v := 5) rfl dX5_digest_12 (by decide +kernel) ?_
    refine sw_icmp_gt (pc' := 16) (tgt := 35) rfl dX5_digest_13 (by decide +kernel) (fun c13 => ?_) (fun c13 => ?_)
    · exact fq _ _ _ _ hM hF hn (by omega) (by omega)
    · exact absurd (show (5 : Int32) < nI 6 by decide +kernel) c13
  | succ m ih =>
    intro j v bc bs n h hj fq hM hF hn hb1 hb2
    obtain ⟨G0, hG0, eG0⟩ := hM.out
    rw [dgN] at fq
    refine sw_iload_n (pc' := 12) rfl dX5_digest_11 rfl ?_
    refine sw_iconst (pc' := 13) (v := 5) rfl dX5_digest_12 (by decide +kernel) ?_
    refine sw_icmp_gt (pc' := 16) (tgt := 35) rfl dX5_digest_13 (by decide +kernel) (fun c13 => ?_) (fun c13 => ?_)
    · exact absurd c13 (nI_nlt (a := 5) (by omega) (by decide +kernel))
    · refine sw_lload_n (pc' := 17) rfl dX5_digest_16 rfl ?_
      refine sw_ldc2 (pc' := 20) rfl dX5_digest_17 w_1484 ?_
      refine sw_lmul (pc' := 21) rfl dX5_digest_20 ?_
      refine sw_aload_n (pc' := 22) rfl dX5_digest_21 rfl ?_
      refine sw_iload_n (pc' := 23) rfl dX5_digest_22 rfl ?_
      refine sw_V (M' := MX5_houseTold) (d' := d - 1) (bc' := 1) (bs' := 12) (ci := 6) (as := [_]) dX5_digest_23 w_1467 ok_X5_houseTold (q_houseTold hM hA hI (X := j) (by omega) (by omega) (by omega) (by omega) (by omega)) hM.ob rfl (by omega) (Nat.le_of_ble_eq_true rfl) (by omega) (by omega) (fun E h' n' _ z => tp_x z) (tp_k (fun p n9 pk pF => ?_))
      have pM := hM.fr (fun i h1 h2 => pF i (by omega))
      refine sw_i2l (pc' := 27) rfl dX5_digest_26 ?_
      refine sw_ladd (pc' := 28) rfl dX5_digest_27 ?_
      refine sw_lstore_n (pc' := 29) (lv' := [(1, _), (3, _), (0, _)]) rfl dX5_digest_28 (by decide +kernel) rfl ?_
      refine sw_iinc (pc' := 32) (lv' := [(3, _), (1, _), (0, _)]) (v := nI (j + 1)) rfl dX5_digest_29 rfl (nI_1 j) (by decide +kernel) rfl ?_
      refine sw_goto (tgt := 11) dX5_digest_32 (by decide +kernel) ?_
      exact ih (j + 1) _ _ _ _ _ (by omega) fq pM (hF.tr (fun i _ g => pF i g) hn) (by omega) (by omega) (by omega)
theorem ql_dg2i {d bc bs n j : Nat} {h : AH} {ρ : Nat → Nat → Int32} {τ : Nat → Int32} {σ : CS} {Post : ARes → AH → Nat → Prop} (hM : MM h ρ τ σ 0) (hA : AG ρ τ σ) (hj : j < 11) (hc : σ.2.1 j ≤ 12) (m : Nat) : ∀ (i : Nat) (v : Int64), i + m = σ.2.1 j → SW SR0 MX5_digest d bc bs 94 [(4, .int (nI (σ.2.1 j))), (1, .long (dgN (σ.1 j) i m v)), (3, .int (nI j)), (0, .ref 135)] [] h n Post → SW SR0 MX5_digest d bc bs 60 [(4, .int (nI i)), (1, .long v), (3, .int (nI j)), (0, .ref 135)] [] h n Post := by
  obtain ⟨G0, hG0, eG0⟩ := hM.out
  induction m with
  | zero =>
    intro i v hi fq
    have hic : i = σ.2.1 j := by omega
    subst hic
    refine sw_iload (pc' := 62) rfl dX5_digest_60 rfl ?_
    refine sw_aload_n (pc' := 63) rfl dX5_digest_62 rfl ?_
    refine sw_getf (ci := 6) (k := 4) (pc' := 66) rfl dX5_digest_63 (by decide +kernel) w_1117 hM.ob rfl ?_
    refine sw_iload_n (pc' := 67) rfl dX5_digest_66 rfl ?_
    refine sw_iald (j := j) (pc' := 68) rfl dX5_digest_67 hM.sz rfl (by omega) (by decide +kernel) ?_
    refine sw_icmp_ge (pc' := 71) (tgt := 94) rfl dX5_digest_68 (by decide +kernel) (fun c68 => ?_) (fun c68 => ?_)
    · exact fq
    · exact absurd (Int32.le_refl _) c68
  | succ m ih =>
    intro i v hi fq
    rw [dgN] at fq
    refine sw_iload (pc' := 62) rfl dX5_digest_60 rfl ?_
    refine sw_aload_n (pc' := 63) rfl dX5_digest_62 rfl ?_
    refine sw_getf (ci := 6) (k := 4) (pc' := 66) rfl dX5_digest_63 (by decide +kernel) w_1117 hM.ob rfl ?_
    refine sw_iload_n (pc' := 67) rfl dX5_digest_66 rfl ?_
    refine sw_iald (j := j) (pc' := 68) rfl dX5_digest_67 hM.sz rfl (by omega) (by decide +kernel) ?_
    refine sw_icmp_ge (pc' := 71) (tgt := 94) rfl dX5_digest_68 (by decide +kernel) (fun c68 => ?_) (fun c68 => ?_)
    · exact absurd c68 (nI_ge (by omega) (by omega))
    · refine sw_lload_n (pc' := 72) rfl dX5_digest_71 rfl ?_
      refine sw_ldc2 (pc' := 75) rfl dX5_digest_72 w_1484 ?_
      refine sw_lmul (pc' := 76) rfl dX5_digest_75 ?_
      refine sw_aload_n (pc' := 77) rfl dX5_digest_76 rfl ?_
      refine sw_getf (ci := 6) (k := 3) (pc' := 80) rfl dX5_digest_77 (by decide +kernel) w_1116 hM.ob rfl ?_
      refine sw_iload_n (pc' := 81) rfl dX5_digest_80 rfl ?_
      refine sw_aald (j := j) (pc' := 82) rfl dX5_digest_81 hG0 (by decide +kernel) (by decide +kernel) rfl (by omega) (by decide +kernel) (eG0 j (by omega)) ?_
      refine sw_iload (pc' := 84) rfl dX5_digest_82 rfl ?_
      refine sw_iald (j := i) (pc' := 85) rfl dX5_digest_84 (hM.row (k := j) (by omega)) rfl (by omega) (by decide +kernel) ?_
      rw [hA.1 j (by omega) i (by omega)]
      refine sw_i2l (pc' := 86) rfl dX5_digest_85 ?_
      refine sw_ladd (pc' := 87) rfl dX5_digest_86 ?_
      refine sw_lstore_n (pc' := 88) (lv' := [(1, _), (4, _), (3, _), (0, _)]) rfl dX5_digest_87 (by decide +kernel) rfl ?_
      refine sw_iinc (pc' := 91) (lv' := [(4, _), (1, _), (3, _), (0, _)]) (v := nI (i + 1)) rfl dX5_digest_88 rfl (nI_1 i) (by decide +kernel) rfl ?_
      refine sw_goto (tgt := 60) dX5_digest_91 (by decide +kernel) ?_
      exact ih (i + 1) _ (by omega) fq
theorem ql_dg2 {d bc bs n : Nat} {h : AH} {ρ : Nat → Nat → Int32} {τ : Nat → Int32} {σ : CS} {Post : ARes → AH → Nat → Prop} (hM : MM h ρ τ σ 0) (hA : AG ρ τ σ) (hI : Iv σ) (m : Nat) : ∀ (j : Nat) (v : Int64), j + m = 11 → SW SR0 MX5_digest d bc bs 100 [(3, .int (nI 11)), (1, .long (dgS σ j m v)), (0, .ref 135)] [] h n Post → SW SR0 MX5_digest d bc bs 37 [(3, .int (nI j)), (1, .long v), (0, .ref 135)] [] h n Post := by
  obtain ⟨G0, hG0, eG0⟩ := hM.out
  induction m with
  | zero =>
    intro j v hj fq
    have hj11 : j = 11 := by omega
    subst hj11
    refine sw_iload_n (pc' := 38) rfl dX5_digest_37 rfl ?_
    refine sw_bipush (pc' := 40) (v := 11) rfl dX5_digest_38 (by decide +kernel) ?_
    refine sw_icmp_ge (pc' := 43) (tgt := 100) rfl dX5_digest_40 (by decide +kernel) (fun c40 => ?_) (fun c40 => ?_)
    · exact fq
    · exact absurd (Int32.le_refl (nI 11)) c40
  | succ m ih =>
    intro j v hj fq
    rw [dgS] at fq
    have hc := hI.1 j (by omega)
    refine sw_iload_n (pc' := 38) rfl dX5_digest_37 rfl ?_
    refine sw_bipush (pc' := 40) (v := 11) rfl dX5_digest_38 (by decide +kernel) ?_
    refine sw_icmp_ge (pc' := 43) (tgt := 100) rfl dX5_digest_40 (by decide +kernel) (fun c40 => ?_) (fun c40 => ?_)
    · exact absurd c40 (nI_ge (b := 11) (by omega) (by decide +kernel))
    · refine sw_lload_n (pc' := 44) rfl dX5_digest_43 rfl ?_
      refine sw_ldc2 (pc' := 47) rfl dX5_digest_44 w_1484 ?_
      refine sw_lmul (pc' := 48) rfl dX5_digest_47 ?_
      refine sw_aload_n (pc' := 49) rfl dX5_digest_48 rfl ?_
      refine sw_getf (ci := 6) (k := 4) (pc' := 52) rfl dX5_digest_49 (by decide +kernel) w_1117 hM.ob rfl ?_
      refine sw_iload_n (pc' := 53) rfl dX5_digest_52 rfl ?_
      refine sw_iald (j := j) (pc' := 54) rfl dX5_digest_53 hM.sz rfl (by omega) (by decide +kernel) ?_
      refine sw_i2l (pc' := 55) rfl dX5_digest_54 ?_
      refine sw_ladd (pc' := 56) rfl dX5_digest_55 ?_
      refine sw_lstore_n (pc' := 57) (lv' := [(1, _), (3, _), (0, _)]) rfl dX5_digest_56 (by decide +kernel) rfl ?_
      refine sw_iconst (pc' := 58) (v := 0) rfl dX5_digest_57 (by decide +kernel) ?_
      refine sw_istore (pc' := 60) (lv' := [(4, _), (1, _), (3, _), (0, _)]) rfl dX5_digest_58 (by decide +kernel) rfl ?_
      refine SW.pick [0, 1, 2, 3] rfl (ql_dg2i hM hA (j := j) (by omega) hc (σ.2.1 j) 0 _ (by omega) ?_)
      refine sw_iinc (pc' := 97) (lv' := [(3, _), (4, _), (1, _), (0, _)]) (v := nI (j + 1)) rfl dX5_digest_94 rfl (nI_1 j) (by decide +kernel) rfl ?_
      refine sw_goto (tgt := 37) dX5_digest_97 (by decide +kernel) ?_
      exact SW.pick [0, 2, 3] rfl (ih (j + 1) _ (by omega) fq)
theorem ql_dg3i {d n0 B S9 j : Nat} {h0 : AH} {ρ : Nat → Nat → Int32} {τ : Nat → Int32} {σ : CS} {Post : ARes → AH → Nat → Prop} (hA : AG ρ τ σ) (hI : Iv σ) (hd : 4 ≤ d) (hn0 : 158 ≤ n0) (hj : j < 6) (m : Nat) : ∀ (i : Nat) (v : Int64) (bc bs n : Nat) (h : AH), i + m = 4 → (∀ (bc bs n : Nat) (h : AH), MM h ρ τ σ 0 → FrM h0 h n0 → n0 ≤ n → B ≤ bc → S9 ≤ bs → SW SR0 MX5_digest d bc bs 138 [(4, .int (nI 4)), (1, .long (dgN (fun x => owV σ j (nI x)) i m v)), (3, .int (nI j)), (0, .ref 135)] [] h n Post) → MM h ρ τ σ 0 → FrM h0 h n0 → n0 ≤ n → B + m ≤ bc → S9 + 12 * m ≤ bs → SW SR0 MX5_digest d bc bs 111 [(4, .int (nI i)), (1, .long v), (3, .int (nI j)), (0, .ref 135)] [] h n Post := by
  induction m with
  | zero =>
    intro i v bc bs n h hi fq hM hF hn hb1 hb2
    obtain ⟨G0, hG0, eG0⟩ := hM.out
    have hi4 : i = 4 := by omega
    subst hi4
    refine sw_iload (pc' := 113) rfl dX5_digest_111 rfl ?_
    refine sw_iconst (pc' := 114) (v := 3) rfl dX5_digest_113 (by decide +kernel) ?_
    refine sw_icmp_gt (pc' := 117) (tgt := 138) rfl dX5_digest_114 (by decide +kernel) (fun c114 => ?_) (fun c114 => ?_)
    · exact fq _ _ _ _ hM hF hn (by omega) (by omega)
    · exact absurd (show (3 : Int32) < nI 4 by decide +kernel) c114
  | succ m ih =>
    intro i v bc bs n h hi fq hM hF hn hb1 hb2
    obtain ⟨G0, hG0, eG0⟩ := hM.out
    rw [dgN] at fq
    refine sw_iload (pc' := 113) rfl dX5_digest_111 rfl ?_
    refine sw_iconst (pc' := 114) (v := 3) rfl dX5_digest_113 (by decide +kernel) ?_
    refine sw_icmp_gt (pc' := 117) (tgt := 138) rfl dX5_digest_114 (by decide +kernel) (fun c114 => ?_) (fun c114 => ?_)
    · exact absurd c114 (nI_nlt (a := 3) (by omega) (by decide +kernel))
    · refine sw_lload_n (pc' := 118) rfl dX5_digest_117 rfl ?_
      refine sw_ldc2 (pc' := 121) rfl dX5_digest_118 w_1484 ?_
      refine sw_lmul (pc' := 122) rfl dX5_digest_121 ?_
      refine sw_aload_n (pc' := 123) rfl dX5_digest_122 rfl ?_
      refine sw_iload_n (pc' := 124) rfl dX5_digest_123 rfl ?_
      refine sw_iload (pc' := 126) rfl dX5_digest_124 rfl ?_
      refine sw_V (M' := MX5_told) (d' := d - 1) (bc' := 1) (bs' := 12) (ci := 6) (as := [_, _]) dX5_digest_126 w_1459 ok_X5_told (q_told hM (k := j) (X := i) (by omega) (hI.2.2.2.2.2.2.1 j (by omega)) (by omega) (by omega) (by omega) (by omega) (by omega)) hM.ob rfl (by omega) (Nat.le_of_ble_eq_true rfl) (by omega) (by omega) (fun E h' n' _ z => tp_x z) (tp_k (fun p n9 pk pF => ?_))
      have pM := hM.fr (fun i h1 h2 => pF i (by omega))
      refine sw_i2l (pc' := 130) rfl dX5_digest_129 ?_
      refine sw_ladd (pc' := 131) rfl dX5_digest_130 ?_
      refine sw_lstore_n (pc' := 132) (lv' := [(1, _), (4, _), (3, _), (0, _)]) rfl dX5_digest_131 (by decide +kernel) rfl ?_
      refine sw_iinc (pc' := 135) (lv' := [(4, _), (1, _), (3, _), (0, _)]) (v := nI (i + 1)) rfl dX5_digest_132 rfl (nI_1 i) (by decide +kernel) rfl ?_
      refine sw_goto (tgt := 111) dX5_digest_135 (by decide +kernel) ?_
      exact ih (i + 1) _ _ _ _ _ (by omega) fq pM (hF.tr (fun i _ g => pF i g) hn) (by omega) (by omega) (by omega)
theorem ql_dg3 {d n0 : Nat} {h0 : AH} {ρ : Nat → Nat → Int32} {τ : Nat → Int32} {σ : CS} {Post : ARes → AH → Nat → Prop} (hA : AG ρ τ σ) (hI : Iv σ) (hd : 4 ≤ d) (hn0 : 158 ≤ n0) (m : Nat) : ∀ (j : Nat) (v : Int64) (bc bs n : Nat) (h : AH), j + m = 6 → (∀ (bc bs n : Nat) (h : AH), MM h ρ τ σ 0 → FrM h0 h n0 → n0 ≤ n → SW SR0 MX5_digest d bc bs 144 [(3, .int (nI 6)), (1, .long (dgW σ j m v)), (0, .ref 135)] [] h n Post) → MM h ρ τ σ 0 → FrM h0 h n0 → n0 ≤ n → 4 * m ≤ bc → 48 * m ≤ bs → SW SR0 MX5_digest d bc bs 102 [(3, .int (nI j)), (1, .long v), (0, .ref 135)] [] h n Post := by
  induction m with
  | zero =>
    intro j v bc bs n h hj fq hM hF hn hb1 hb2
    obtain ⟨G0, hG0, eG0⟩ := hM.out
    have hj6 : j = 6 := by omega
    subst hj6
    refine sw_iload_n (pc' := 103) rfl dX5_digest_102 rfl ?_
    refine sw_bipush (pc' := 105) (v := 6) rfl dX5_digest_103 (by decide +kernel) ?_
    refine sw_icmp_ge (pc' := 108) (tgt := 144) rfl dX5_digest_105 (by decide +kernel) (fun c105 => ?_) (fun c105 => ?_)
    · exact fq _ _ _ _ hM hF hn
    · exact absurd (Int32.le_refl (nI 6)) c105
  | succ m ih =>
    intro j v bc bs n h hj fq hM hF hn hb1 hb2
    obtain ⟨G0, hG0, eG0⟩ := hM.out
    rw [dgW] at fq
    refine sw_iload_n (pc' := 103) rfl dX5_digest_102 rfl ?_
    refine sw_bipush (pc' := 105) (v := 6) rfl dX5_digest_103 (by decide +kernel) ?_
    refine sw_icmp_ge (pc' := 108) (tgt := 144) rfl dX5_digest_105 (by decide +kernel) (fun c105 => ?_) (fun c105 => ?_)
    · exact absurd c105 (nI_ge (b := 6) (by omega) (by decide +kernel))
    · refine sw_iconst (pc' := 109) (v := 0) rfl dX5_digest_108 (by decide +kernel) ?_
      refine sw_istore (pc' := 111) (lv' := [(4, _), (3, _), (1, _), (0, _)]) rfl dX5_digest_109 (by decide +kernel) rfl ?_
      refine SW.pick [0, 2, 1, 3] rfl (ql_dg3i (B := 4 * m) (S9 := 48 * m) hA hI hd hn0 (j := j) (by omega) 4 0 _ _ _ _ _ rfl (fun bc bs n h hM hF hn hb1 hb2 => ?_) hM hF hn (by omega) (by omega))
      obtain ⟨G0, hG0, eG0⟩ := hM.out
      refine sw_iinc (pc' := 141) (lv' := [(3, _), (4, _), (1, _), (0, _)]) (v := nI (j + 1)) rfl dX5_digest_138 rfl (nI_1 j) (by decide +kernel) rfl ?_
      refine sw_goto (tgt := 102) dX5_digest_141 (by decide +kernel) ?_
      exact SW.pick [0, 2, 3] rfl (ih (j + 1) _ _ _ _ _ (by omega) fq hM hF hn (by omega) (by omega))
/-- the long that it answers -/
def DP (h : AH) (n : Nat) (σ : CS) : ARes → AH → Nat → Prop := fun r' h' n' => r' = .inl (some (.long (dgZ σ))) ∧ n ≤ n' ∧ RMo h' σ 0 ∧ FrM h h' n
theorem q_digest {h : AH} {d bc bs n : Nat} {σ : CS} {th : Int32} (hR : RMo h σ th) (hI : Iv σ) (hs : snB σ = true) (hn : 159 ≤ n) (hd : 6 ≤ d) (h1 : 40 ≤ bc) (h2 : 400 ≤ bs) : SM SR0 MX5_digest d bc bs [.ref 135] h n (DP h n σ) := by
  obtain ⟨ρ, τ, hM, hA⟩ := hR
  obtain ⟨G0, hG0, eG0⟩ := hM.out
  refine sm_of pn_OverwalksModel rfl (Nat.le_of_ble_eq_true rfl) ?_
  refine sw_aload_n (pc' := 1) rfl dX5_digest_0 rfl ?_
  refine sw_iconst (pc' := 2) (v := 0) rfl dX5_digest_1 (by decide +kernel) ?_
  refine sw_putf (ci := 6) (k := 0) (pc' := 5) rfl dX5_digest_2 (by decide +kernel) (by decide +kernel) w_1113 rfl hM.ob (by decide +kernel) (Nat.le_of_ble_eq_true rfl) rfl rfl ?_
  refine sw_nm (fun g1 eg1 => ?_)
  have zg1 := (congrFun eg1 135).trans (up_s (h := h) (i := 135))
  refine sw_ldc2 (pc' := 8) rfl dX5_digest_5 w_1483 ?_
  refine sw_lstore_n (pc' := 9) (lv' := [(1, _), (0, _)]) rfl dX5_digest_8 (by decide +kernel) rfl ?_
  refine sw_iconst (pc' := 10) (v := 0) rfl dX5_digest_9 (by decide +kernel) ?_
  refine sw_istore_n (pc' := 11) (lv' := [(3, _), (1, _), (0, _)]) rfl dX5_digest_10 (by decide +kernel) rfl ?_
  have nM : MM g1 ρ τ σ 0 := hM.obU (τ' := σ) (t := 0) zg1 (fun i h1 => (congrFun eg1 i).trans ((up_n h1).trans (rfl))) rfl rfl rfl rfl
  have nF : FrM h g1 n := FrM.of1 (fun i q => (congrFun eg1 i).trans ((up_n (by omega)).trans (rfl)))
  refine SW.pick [0, 1, 2] rfl (ql_dg1 (B := 24) (S9 := 288) hA hI (by omega) (by omega) 6 0 _ _ _ _ _ rfl (fun bc bs m h' hM hF hn' hb1 hb2 => ?_) nM nF (Nat.le_refl _) (by omega) (by omega))
  obtain ⟨G0, hG0, eG0⟩ := hM.out
  refine sw_iconst (pc' := 36) (v := 0) rfl dX5_digest_35 (by decide +kernel) ?_
  refine sw_istore_n (pc' := 37) (lv' := [(3, _), (1, _), (0, _)]) rfl dX5_digest_36 (by decide +kernel) rfl ?_
  refine SW.pick [0, 1, 2] rfl (ql_dg2 hM hA hI 11 0 _ rfl ?_)
  refine sw_iconst (pc' := 101) (v := 0) rfl dX5_digest_100 (by decide +kernel) ?_
  refine sw_istore_n (pc' := 102) (lv' := [(3, _), (1, _), (0, _)]) rfl dX5_digest_101 (by decide +kernel) rfl ?_
  refine SW.pick [0, 1, 2] rfl (ql_dg3 hA hI (by omega) (n0 := n) (h0 := h) (by omega) 6 0 _ _ _ _ _ rfl (fun bc bs m h' hM hF hn' => ?_) hM hF hn' (by omega) (by omega))
  obtain ⟨G0, hG0, eG0⟩ := hM.out
  refine sw_lload_n (pc' := 145) rfl dX5_digest_144 rfl ?_
  refine sw_ldc2 (pc' := 148) rfl dX5_digest_145 w_1484 ?_
  refine sw_lmul (pc' := 149) rfl dX5_digest_148 ?_
  refine sw_lconst (pc' := 150) (v := 1) rfl dX5_digest_149 (by decide +kernel) ?_
  refine sw_ladd (pc' := 151) rfl dX5_digest_150 ?_
  refine sw_ret (v := some _) ⟨dX5_digest_151, rfl⟩ ?_
  exact ⟨by rw [dgZ, hs]; rfl, hn', ⟨_, _, hM, hA⟩, hF⟩
