/-! digest -/
def dgZ (σ : CS) : Int64 := dgW σ 0 6 (dgS σ 0 11 (dgN (fun x => hoV σ (nI x)) 0 6 7780)) * 31 + (bI (snB σ)).toInt64
theorem dg_A {h : AH} {σ : CS} {d n : Nat} {Post : ARes → AH → Nat → Prop} {bc bs : Nat} (hR : RC h σ) (hd : 5 ≤ d) (m : Nat) : ∀ (j : Nat) (v : Int64), j + m = 6 → (SW SR0 MX3_digest d bc bs 30 [(3, .int (nI 6)), (1, .long (dgN (fun x => hoV σ (nI x)) j m v)), (0, .ref 100)] [] h n Post) → SW SR0 MX3_digest d bc bs 6 [(3, .int (nI j)), (1, .long v), (0, .ref 100)] [] h n Post := by
  induction m with
  | zero =>
    intro j v hj k
    have hj6 : j = 6 := by omega
    subst hj6
    refine sw_iload_n (pc' := 7) rfl dX3_digest_6 rfl ?_
    refine sw_iconst (pc' := 8) (v := 5) rfl dX3_digest_7 (by decide +kernel) ?_
    refine sw_icmp_gt (pc' := 11) (tgt := 30) rfl dX3_digest_8 (by decide +kernel) (fun c8 => ?_) (fun c8 => ?_)
    · exact k
    · exact absurd (show (5 : Int32) < nI 6 from by decide +kernel) c8
  | succ m ih =>
    intro j v hj k
    refine sw_iload_n (pc' := 7) rfl dX3_digest_6 rfl ?_
    refine sw_iconst (pc' := 8) (v := 5) rfl dX3_digest_7 (by decide +kernel) ?_
    refine sw_icmp_gt (pc' := 11) (tgt := 30) rfl dX3_digest_8 (by decide +kernel) (fun c8 => ?_) (fun c8 => ?_)
    · exact absurd (show nI 5 < nI j from c8) (fun q => absurd ((nI_ltI (a := 5) (b := j) (by decide +kernel) (by omega)).mp q) (by omega))
    · refine sw_lload_n (pc' := 12) rfl dX3_digest_11 rfl ?_
      refine sw_ldc2 (pc' := 15) rfl dX3_digest_12 w_256 ?_
      refine sw_lmul (pc' := 16) rfl dX3_digest_15 ?_
      refine sw_aload_n (pc' := 17) rfl dX3_digest_16 rfl ?_
      refine sw_iload_n (pc' := 18) rfl dX3_digest_17 rfl ?_
      refine sw_V (M' := MX3_house) (d' := d - 1) (bc' := 0) (bs' := 0) (ci := 4) (as := [_]) dX3_digest_18 w_257 ok_X3_house (m_houseK (x := nI j) hR (by omega) (nin (N := 5) (by decide +kernel) (by omega))) hR.1 rfl (by omega) (Nat.le_of_ble_eq_true rfl) (by omega) (by omega) (fun E h' n' _ z => det_x z) (det_k ?_)
      refine sw_i2l (pc' := 22) rfl dX3_digest_21 ?_
      refine sw_ladd (pc' := 23) rfl dX3_digest_22 ?_
      refine sw_lstore_n (pc' := 24) (lv' := [(1, _), (3, _), (0, _)]) rfl dX3_digest_23 (by decide +kernel) rfl ?_
      refine sw_iinc (pc' := 27) (lv' := [(3, _), (1, _), (0, _)]) (v := nI (j + 1)) rfl dX3_digest_24 rfl (nI_succ j).symm (by decide +kernel) rfl ?_
      refine sw_goto (tgt := 6) dX3_digest_27 (by decide +kernel) ?_
      exact ih (j + 1) _ (by omega) k
theorem dg_P {h : AH} {σ : CS} {d n : Nat} {Post : ARes → AH → Nat → Prop} {bc bs k : Nat} (hR : RC h σ) (hk : k < 11) (hd : 5 ≤ d) (m : Nat) : ∀ (j : Nat) (v : Int64), j + m = σ.2.1 k → (SW SR0 MX3_digest d bc bs 93 [(5, .int (nI (σ.2.1 k))), (4, .ref (102 + 2 * k)), (3, .int (nI k)), (1, .long (dgN (σ.1 k) j m v)), (0, .ref 100)] [] h n Post) → SW SR0 MX3_digest d bc bs 62 [(5, .int (nI j)), (4, .ref (102 + 2 * k)), (3, .int (nI k)), (1, .long v), (0, .ref 100)] [] h n Post := by
  have hc := (hR.sh hk).2.2.1
  induction m with
  | zero =>
    intro j v hj k9
    have hjc : σ.2.1 k = j := by omega
    rw [hjc] at k9
    refine sw_iload (pc' := 64) rfl dX3_digest_62 rfl ?_
    refine sw_aload (pc' := 66) rfl dX3_digest_64 rfl ?_
    refine sw_getf (ci := 2) (k := 2) (pc' := 69) rfl dX3_digest_66 (by decide +kernel) w_84 (hR.sh hk).1 rfl ?_
    refine sw_icmp_ge (pc' := 72) (tgt := 93) rfl dX3_digest_69 (by decide +kernel) (fun c69 => ?_) (fun c69 => ?_)
    · exact k9
    · exact absurd (by rw [hjc]; exact Int32.le_refl _) c69
  | succ m ih =>
    intro j v hj k9
    have e1 := taI_in (f := σ.1 k) (c := σ.2.1 k) (j := j) (by omega) hc
    refine sw_iload (pc' := 64) rfl dX3_digest_62 rfl ?_
    refine sw_aload (pc' := 66) rfl dX3_digest_64 rfl ?_
    refine sw_getf (ci := 2) (k := 2) (pc' := 69) rfl dX3_digest_66 (by decide +kernel) w_84 (hR.sh hk).1 rfl ?_
    refine sw_icmp_ge (pc' := 72) (tgt := 93) rfl dX3_digest_69 (by decide +kernel) (fun c69 => ?_) (fun c69 => ?_)
    · exact absurd c69 (nI_ge (by omega) (by omega))
    · refine sw_lload_n (pc' := 73) rfl dX3_digest_72 rfl ?_
      refine sw_ldc2 (pc' := 76) rfl dX3_digest_73 w_256 ?_
      refine sw_lmul (pc' := 77) rfl dX3_digest_76 ?_
      refine sw_aload (pc' := 79) rfl dX3_digest_77 rfl ?_
      refine sw_iload (pc' := 81) rfl dX3_digest_79 rfl ?_
      refine sw_V (M' := MX1_thingAt) (d' := d - 1) (bc' := 0) (bs' := 0) (ci := 2) (as := [_]) dX3_digest_81 w_230 ok_X1_thingAt (m_thingAt (hR.sh hk)) (hR.sh hk).1 rfl (by omega) (Nat.le_of_ble_eq_true rfl) (by omega) (by omega) (fun E h' n' _ z => det_x z) (det_k ?_)
      refine sw_i2l (pc' := 85) rfl dX3_digest_84 ?_
      refine sw_ladd (pc' := 86) rfl dX3_digest_85 ?_
      refine sw_lstore_n (pc' := 87) (lv' := [(1, _), (5, _), (4, _), (3, _), (0, _)]) rfl dX3_digest_86 (by decide +kernel) rfl ?_
      refine sw_iinc (pc' := 90) (lv' := [(5, _), (1, _), (4, _), (3, _), (0, _)]) (v := nI (j + 1)) rfl dX3_digest_87 rfl (nI_succ j).symm (by decide +kernel) rfl ?_
      refine sw_goto (tgt := 62) dX3_digest_90 (by decide +kernel) ?_
      rw [e1]
      refine sw_loc (lv' := [(5, .int (nI (j + 1))), (4, .ref (102 + 2 * k)), (3, .int (nI k)), (1, .long (v * 31 + (σ.1 k j).toInt64)), (0, .ref 100)]) ?_ (by intro q hq; simp only [List.mem_cons, List.not_mem_nil, or_false] at hq; rcases hq with rfl | rfl | rfl | rfl | rfl <;> simp [nI_0])
      exact ih (j + 1) _ (by omega) k9
theorem dg_S {h : AH} {σ : CS} {d n : Nat} {Post : ARes → AH → Nat → Prop} {bc bs : Nat} (hR : RC h σ) (hd : 5 ≤ d) (m : Nat) : ∀ (k : Nat) (v : Int64), k + m = 11 → (SW SR0 MX3_digest d bc bs 99 [(3, .int (nI 11)), (1, .long (dgS σ k m v)), (0, .ref 100)] [] h n Post) → SW SR0 MX3_digest d bc bs 32 [(3, .int (nI k)), (1, .long v), (0, .ref 100)] [] h n Post := by
  obtain ⟨g, ga, gb⟩ := hR.2.1
  induction m with
  | zero =>
    intro k v hj k9
    have hj6 : k = 11 := by omega
    subst hj6
    refine sw_iload_n (pc' := 33) rfl dX3_digest_32 rfl ?_
    refine sw_bipush (pc' := 35) (v := 11) rfl dX3_digest_33 (by decide +kernel) ?_
    refine sw_icmp_ge (pc' := 38) (tgt := 99) rfl dX3_digest_35 (by decide +kernel) (fun c35 => ?_) (fun c35 => ?_)
    · exact k9
    · exact absurd (Int32.le_refl (nI 11)) c35
  | succ m ih =>
    intro k v hm k9
    have hk : k < 11 := by omega
    refine sw_iload_n (pc' := 33) rfl dX3_digest_32 rfl ?_
    refine sw_bipush (pc' := 35) (v := 11) rfl dX3_digest_33 (by decide +kernel) ?_
    refine sw_icmp_ge (pc' := 38) (tgt := 99) rfl dX3_digest_35 (by decide +kernel) (fun c35 => ?_) (fun c35 => ?_)
    · exact absurd c35 (nI_ge (b := 11) (by omega) (by decide +kernel))
    · refine sw_aload_n (pc' := 39) rfl dX3_digest_38 rfl ?_
      refine sw_getf (ci := 4) (k := 0) (pc' := 42) rfl dX3_digest_39 (by decide +kernel) w_150 hR.1 rfl ?_
      refine sw_iload_n (pc' := 43) rfl dX3_digest_42 rfl ?_
      refine sw_aald (pc' := 44) rfl dX3_digest_43 ga (by decide +kernel) (by decide +kernel) rfl hk (by decide +kernel) (gb k hk) ?_
      refine sw_astore (pc' := 46) (lv' := [(4, _), (3, _), (1, _), (0, _)]) rfl dX3_digest_44 (by decide +kernel) rfl ?_
      refine sw_lload_n (pc' := 47) rfl dX3_digest_46 rfl ?_
      refine sw_ldc2 (pc' := 50) rfl dX3_digest_47 w_256 ?_
      refine sw_lmul (pc' := 51) rfl dX3_digest_50 ?_
      refine sw_aload (pc' := 53) rfl dX3_digest_51 rfl ?_
      refine sw_getf (ci := 2) (k := 2) (pc' := 56) rfl dX3_digest_53 (by decide +kernel) w_84 (hR.sh hk).1 rfl ?_
      refine sw_i2l (pc' := 57) rfl dX3_digest_56 ?_
      refine sw_ladd (pc' := 58) rfl dX3_digest_57 ?_
      refine sw_lstore_n (pc' := 59) (lv' := [(1, _), (4, _), (3, _), (0, _)]) rfl dX3_digest_58 (by decide +kernel) rfl ?_
      refine sw_iconst (pc' := 60) (v := 0) rfl dX3_digest_59 (by decide +kernel) ?_
      refine sw_istore (pc' := 62) (lv' := [(5, _), (1, _), (4, _), (3, _), (0, _)]) rfl dX3_digest_60 (by decide +kernel) rfl ?_
      refine sw_loc (lv' := [(5, .int (nI 0)), (4, .ref (102 + 2 * k)), (3, .int (nI k)), (1, .long (v * 31 + (nI (σ.2.1 k)).toInt64)), (0, .ref 100)]) ?_ (by intro q hq; simp only [List.mem_cons, List.not_mem_nil, or_false] at hq; rcases hq with rfl | rfl | rfl | rfl | rfl <;> simp [nI_0])
      refine dg_P hR hk hd (σ.2.1 k) 0 _ (by omega) ?_
      refine sw_iinc (pc' := 96) (lv' := [(3, _), (5, _), (4, _), (1, _), (0, _)]) (v := nI (k + 1)) rfl dX3_digest_93 rfl (nI_succ k).symm (by decide +kernel) rfl ?_
      refine sw_goto (tgt := 32) dX3_digest_96 (by decide +kernel) ?_
      refine sw_loc (lv' := [(3, .int (nI (k + 1))), (1, .long (dgN (σ.1 k) 0 (σ.2.1 k) (v * 31 + (nI (σ.2.1 k)).toInt64))), (0, .ref 100)]) ?_ (by intro q hq; simp only [List.mem_cons, List.not_mem_nil, or_false] at hq; rcases hq with rfl | rfl | rfl <;> simp [nI_0])
      exact ih (k + 1) _ (by omega) k9
theorem dg_X {h : AH} {σ : CS} {d n : Nat} {Post : ARes → AH → Nat → Prop} {k : Nat} (hR : RC h σ) (hk : k < 6) (hd : 5 ≤ d) (m : Nat) : ∀ (j : Nat) (v : Int64) (bc bs : Nat), j + m = 4 → m ≤ bc → 6 * m ≤ bs → (∀ bc' bs', bc ≤ bc' + m → bs ≤ bs' + 6 * (m) → SW SR0 MX3_digest d bc' bs' 137 [(4, .int (nI 4)), (3, .int (nI k)), (1, .long (dgN (fun x => owV σ k (nI x)) j m v)), (0, .ref 100)] [] h n Post) → SW SR0 MX3_digest d bc bs 110 [(4, .int (nI j)), (3, .int (nI k)), (1, .long v), (0, .ref 100)] [] h n Post := by
  induction m with
  | zero =>
    intro j v bc bs hj b1 b2 k9
    have hj4 : j = 4 := by omega
    subst hj4
    refine sw_iload (pc' := 112) rfl dX3_digest_110 rfl ?_
    refine sw_iconst (pc' := 113) (v := 3) rfl dX3_digest_112 (by decide +kernel) ?_
    refine sw_icmp_gt (pc' := 116) (tgt := 137) rfl dX3_digest_113 (by decide +kernel) (fun c113 => ?_) (fun c113 => ?_)
    · exact k9 bc bs (by omega) (by omega)
    · exact absurd (show (3 : Int32) < nI 4 from by decide +kernel) c113
  | succ m ih =>
    intro j v bc bs hj b1 b2 k9
    refine sw_iload (pc' := 112) rfl dX3_digest_110 rfl ?_
    refine sw_iconst (pc' := 113) (v := 3) rfl dX3_digest_112 (by decide +kernel) ?_
    refine sw_icmp_gt (pc' := 116) (tgt := 137) rfl dX3_digest_113 (by decide +kernel) (fun c113 => ?_) (fun c113 => ?_)
    · exact absurd (show nI 3 < nI j from c113) (fun q => absurd ((nI_ltI (a := 3) (b := j) (by decide +kernel) (by omega)).mp q) (by omega))
    · refine sw_lload_n (pc' := 117) rfl dX3_digest_116 rfl ?_
      refine sw_ldc2 (pc' := 120) rfl dX3_digest_117 w_256 ?_
      refine sw_lmul (pc' := 121) rfl dX3_digest_120 ?_
      refine sw_aload_n (pc' := 122) rfl dX3_digest_121 rfl ?_
      refine sw_iload_n (pc' := 123) rfl dX3_digest_122 rfl ?_
      refine sw_iload (pc' := 125) rfl dX3_digest_123 rfl ?_
      refine sw_V (M' := MX3_ofWalk) (d' := d - 1) (bc' := 1) (bs' := 6) (ci := 4) (as := [_, _]) dX3_digest_125 w_353 ok_X3_ofWalk (m_ofWalkK (x := nI j) hR hk (by decide +kernel) (by decide +kernel) (by omega) (nin (N := 3) (by decide +kernel) (by omega))) hR.1 rfl (by omega) (Nat.le_of_ble_eq_true rfl) (by omega) (by omega) (fun E h' n' _ z => det_x z) (det_k ?_)
      refine sw_i2l (pc' := 129) rfl dX3_digest_128 ?_
      refine sw_ladd (pc' := 130) rfl dX3_digest_129 ?_
      refine sw_lstore_n (pc' := 131) (lv' := [(1, _), (4, _), (3, _), (0, _)]) rfl dX3_digest_130 (by decide +kernel) rfl ?_
      refine sw_iinc (pc' := 134) (lv' := [(4, _), (1, _), (3, _), (0, _)]) (v := nI (j + 1)) rfl dX3_digest_131 rfl (nI_succ j).symm (by decide +kernel) rfl ?_
      refine sw_goto (tgt := 110) dX3_digest_134 (by decide +kernel) ?_
      refine sw_loc (lv' := [(4, .int (nI (j + 1))), (3, .int (nI k)), (1, .long (v * 31 + (owV σ k (nI j)).toInt64)), (0, .ref 100)]) ?_ (by intro q hq; simp only [List.mem_cons, List.not_mem_nil, or_false] at hq; rcases hq with rfl | rfl | rfl | rfl <;> simp [nI_0])
      exact ih (j + 1) _ (bc - 1) (bs - 6) (by omega) (by omega) (by omega) (fun bc' bs' h1 h2 => k9 bc' bs' (by omega) (by omega))
theorem dg_W {h : AH} {σ : CS} {d n : Nat} {Post : ARes → AH → Nat → Prop} (hR : RC h σ) (hd : 5 ≤ d) (m : Nat) : ∀ (k : Nat) (v : Int64) (bc bs : Nat), k + m = 6 → 4 * m ≤ bc → 24 * m ≤ bs → (∀ bc' bs', bc ≤ bc' + 4 * m → bs ≤ bs' + 6 * (4 * m) → SW SR0 MX3_digest d bc' bs' 143 [(3, .int (nI 6)), (1, .long (dgW σ k m v)), (0, .ref 100)] [] h n Post) → SW SR0 MX3_digest d bc bs 101 [(3, .int (nI k)), (1, .long v), (0, .ref 100)] [] h n Post := by
  induction m with
  | zero =>
    intro k v bc bs hj b1 b2 k9
    have hj6 : k = 6 := by omega
    subst hj6
    refine sw_iload_n (pc' := 102) rfl dX3_digest_101 rfl ?_
    refine sw_bipush (pc' := 104) (v := 6) rfl dX3_digest_102 (by decide +kernel) ?_
    refine sw_icmp_ge (pc' := 107) (tgt := 143) rfl dX3_digest_104 (by decide +kernel) (fun c104 => ?_) (fun c104 => ?_)
    · exact k9 bc bs (by omega) (by omega)
    · exact absurd (Int32.le_refl (nI 6)) c104
  | succ m ih =>
    intro k v bc bs hm b1 b2 k9
    have hk : k < 6 := by omega
    refine sw_iload_n (pc' := 102) rfl dX3_digest_101 rfl ?_
    refine sw_bipush (pc' := 104) (v := 6) rfl dX3_digest_102 (by decide +kernel) ?_
    refine sw_icmp_ge (pc' := 107) (tgt := 143) rfl dX3_digest_104 (by decide +kernel) (fun c104 => ?_) (fun c104 => ?_)
    · exact absurd c104 (nI_ge (b := 6) (by omega) (by decide +kernel))
    · refine sw_iconst (pc' := 108) (v := 0) rfl dX3_digest_107 (by decide +kernel) ?_
      refine sw_istore (pc' := 110) (lv' := [(4, _), (3, _), (1, _), (0, _)]) rfl dX3_digest_108 (by decide +kernel) rfl ?_
      refine dg_X hR hk hd 4 0 v bc bs (by omega) (by omega) (by omega) (fun bc' bs' h1 h2 => ?_)
      refine sw_iinc (pc' := 140) (lv' := [(3, _), (4, _), (1, _), (0, _)]) (v := nI (k + 1)) rfl dX3_digest_137 rfl (nI_succ k).symm (by decide +kernel) rfl ?_
      refine sw_goto (tgt := 101) dX3_digest_140 (by decide +kernel) ?_
      refine sw_loc (lv' := [(3, .int (nI (k + 1))), (1, .long (dgN (fun x => owV σ k (nI x)) 0 4 v)), (0, .ref 100)]) ?_ (by intro q hq; simp only [List.mem_cons, List.not_mem_nil, or_false] at hq; rcases hq with rfl | rfl | rfl <;> simp [nI_0])
      exact ih (k + 1) _ bc' bs' (by omega) (by omega) (by omega) (fun b3 b4 h3 h4 => k9 b3 b4 (by omega) (by omega))
theorem m_digest {h : AH} {σ : CS} {d bc bs n : Nat} (hR : RC h σ) (hd : 7 ≤ d) (hb1 : 24 ≤ bc) (hb2 : 144 ≤ bs) : SM SR0 MX3_digest d bc bs [.ref 100] h n (CP h n (.inl (some (.long (dgZ σ))), σ)) := by
  refine sm_of pn_Overwalks rfl (Nat.le_of_ble_eq_true rfl) ?_
  refine sw_ldc2 (pc' := 3) rfl dX3_digest_0 w_255 ?_
  refine sw_lstore_n (pc' := 4) (lv' := [(1, _), (0, _)]) rfl dX3_digest_3 (by decide +kernel) rfl ?_
  refine sw_iconst (pc' := 5) (v := 0) rfl dX3_digest_4 (by decide +kernel) ?_
  refine sw_istore_n (pc' := 6) (lv' := [(3, _), (1, _), (0, _)]) rfl dX3_digest_5 (by decide +kernel) rfl ?_
  refine dg_A hR (by omega) 6 0 _ (by omega) ?_
  refine sw_iconst (pc' := 31) (v := 0) rfl dX3_digest_30 (by decide +kernel) ?_
  refine sw_istore_n (pc' := 32) (lv' := [(3, _), (1, _), (0, _)]) rfl dX3_digest_31 (by decide +kernel) rfl ?_
  refine sw_loc (lv' := [(3, .int (nI 0)), (1, .long (dgN (fun x => hoV σ (nI x)) 0 6 7780)), (0, .ref 100)]) ?_ (by intro q hq; simp only [List.mem_cons, List.not_mem_nil, or_false] at hq; rcases hq with rfl | rfl | rfl <;> simp [nI_0])
  refine dg_S hR (by omega) 11 0 _ (by omega) ?_
  refine sw_iconst (pc' := 100) (v := 0) rfl dX3_digest_99 (by decide +kernel) ?_
  refine sw_istore_n (pc' := 101) (lv' := [(3, _), (1, _), (0, _)]) rfl dX3_digest_100 (by decide +kernel) rfl ?_
  refine sw_loc (lv' := [(3, .int (nI 0)), (1, .long (dgS σ 0 11 (dgN (fun x => hoV σ (nI x)) 0 6 7780))), (0, .ref 100)]) ?_ (by intro q hq; simp only [List.mem_cons, List.not_mem_nil, or_false] at hq; rcases hq with rfl | rfl | rfl <;> simp [nI_0])
  refine dg_W hR (by omega) 6 0 _ bc bs (by omega) (by omega) (by omega) (fun bc' bs' h1 h2 => ?_)
  refine sw_lload_n (pc' := 144) rfl dX3_digest_143 rfl ?_
  refine sw_ldc2 (pc' := 147) rfl dX3_digest_144 w_256 ?_
  refine sw_lmul (pc' := 148) rfl dX3_digest_147 ?_
  refine sw_aload_n (pc' := 149) rfl dX3_digest_148 rfl ?_
  refine sw_V (M' := MX3_isSound) (d' := d - 1) (bc' := 0) (bs' := 0) (ci := 4) (as := []) dX3_digest_149 w_378 ok_X3_isSound (m_isSound hR (by omega)) hR.1 rfl (by omega) (Nat.le_of_ble_eq_true rfl) (by omega) (by omega) (fun E h' n' _ z => cp_x z) (cp_k (fun p pR pF => ?_))
  refine sw_S (M' := MX3_oneIf) (d' := d - 1) (bc' := 0) (bs' := 0) (as := [_]) dX3_digest_152 w_277 ok_X3_oneIf (m_oneIf) (by omega) (Nat.le_of_ble_eq_true rfl) (by omega) (by omega) (fun E h' n' _ z => det_x z) (det_k ?_)
  refine sw_i2l (pc' := 156) rfl dX3_digest_155 ?_
  refine sw_ladd (pc' := 157) rfl dX3_digest_156 ?_
  refine sw_ret (v := some _) ⟨dX3_digest_157, rfl⟩ ?_
  exact ⟨rfl, rfl, pR, pF⟩
