/-! the model as it begins -/
def IM (h : AH) : ARes → AH → Nat → Prop := fun r h' n' => r = .inl none ∧ n' = 158 ∧ RMo h' s0 0 ∧ ∀ i, i < 135 → h' i = h i
theorem sh_s0 : up (up (up (up (up (up (fun _ => (0 : Int32)) 0 (-1)) 1 (-1)) 2 (-1)) 3 (-1)) 4 (-1)) 5 (-1) = shF s0 := by
  funext j
  by_cases h : j < 6
  · rw [shF_n h rfl]
    rcases (show j = 0 ∨ j = 1 ∨ j = 2 ∨ j = 3 ∨ j = 4 ∨ j = 5 by omega) with rfl | rfl | rfl | rfl | rfl | rfl <;> rfl
  · rw [up_n (by omega), up_n (by omega), up_n (by omega), up_n (by omega), up_n (by omega), up_n (by omega)]
    unfold shF
    rw [if_neg h]
theorem wa_s0 : (fun _ => (0 : Int32)) = wAh s0 := funext fun _ => (show (0 : Int32) = 0 - 0 by decide +kernel)
theorem cl_s0 (N : Nat) : IV s0 N := by
  refine ⟨⟨fun _ _ => Nat.zero_le _, fun _ _ j hj => absurd hj (Nat.not_lt_zero _), ?_, ?_, ?_, fun _ _ => (show (0 : Nat) < 11 by decide +kernel), ?_⟩, rfl⟩
  · exact srt_0
  · exact srt_0
  · exact eis_0
  · exact ⟨fun _ => 0, fun _ _ => ⟨rfl, Nat.zero_le _⟩, fun k _ e => by cases e⟩
theorem q_initModel {h : AH} {d bc bs : Nat} (h0 : h 135 = .inr (6, dfs 6)) (h1 : 30 ≤ bc) (h2 : 300 ≤ bs) : SM SR0 MX5_init d bc bs [.ref 135] h 136 (IM h) := by
  refine sm_of pn_OverwalksModel rfl (Nat.le_of_ble_eq_true rfl) ?_
  refine sw_aload_n (pc' := 1) rfl dX5_init_0 rfl ?_
  refine sw_objInit (pc' := 4) rfl dX5_init_1 w_1110 w_69 w_70 (Nat.le_of_ble_eq_true rfl) ?_
  refine sw_aload_n (pc' := 5) rfl dX5_init_4 rfl ?_
  refine sw_bipush (pc' := 7) (v := 11) rfl dX5_init_5 (by decide +kernel) ?_
  refine sw_bipush (pc' := 9) (v := 12) rfl dX5_init_7 (by decide +kernel) ?_
  refine sw_mna (N' := 11) (K' := 12) (pc' := 13) rfl dX5_init_9 w_1111 w_101 rfl rfl (by decide +kernel) (by decide +kernel) (by omega) (by omega) (fun p p136 prow pF => ?_)
  refine sw_putfF (ci := 6) (k := 3) (pc' := 16) rfl dX5_init_13 (by decide +kernel) (by decide +kernel) w_1116 rfl rfl rfl ((pF 135 (by decide +kernel)).trans h0) (by show 100 ≤ _; omega) (Nat.le_of_ble_eq_true rfl) rfl rfl ?_
  refine sw_nm (fun g1 eg1 => ?_)
  have zg1 := (congrFun eg1 135).trans (up_s (h := p) (i := 135))
  refine sw_aload_n (pc' := 17) rfl dX5_init_16 rfl ?_
  refine sw_bipush (pc' := 19) (v := 11) rfl dX5_init_17 (by decide +kernel) ?_
  refine sw_newa (t := 0) (len := 11) (pc' := 21) rfl dX5_init_19 (by decide +kernel) w_101 rfl (by decide +kernel) (by omega) (by omega) ?_
  refine sw_nm (fun g2 eg2 => ?_)
  have zg2 := (congrFun eg2 148).trans (up_s (h := g1) (i := 148))
  refine sw_putfF (ci := 6) (k := 4) (pc' := 24) rfl dX5_init_21 (by decide +kernel) (by decide +kernel) w_1117 rfl rfl rfl (((congrFun eg2 135).trans (up_n (by omega))).trans zg1) (by show 100 ≤ _; omega) (Nat.le_of_ble_eq_true rfl) rfl rfl ?_
  refine sw_nm (fun g3 eg3 => ?_)
  have zg3 := (congrFun eg3 135).trans (up_s (h := g2) (i := 135))
  refine sw_aload_n (pc' := 25) rfl dX5_init_24 rfl ?_
  refine sw_bipush (pc' := 27) (v := 11) rfl dX5_init_25 (by decide +kernel) ?_
  refine sw_newa (t := 0) (len := 11) (pc' := 29) rfl dX5_init_27 (by decide +kernel) w_101 rfl (by decide +kernel) (by omega) (by omega) ?_
  refine sw_nm (fun g4 eg4 => ?_)
  have zg4 := (congrFun eg4 149).trans (up_s (h := g3) (i := 149))
  refine sw_putfF (ci := 6) (k := 5) (pc' := 32) rfl dX5_init_29 (by decide +kernel) (by decide +kernel) w_1118 rfl rfl rfl (((congrFun eg4 135).trans (up_n (by omega))).trans zg3) (by show 100 ≤ _; omega) (Nat.le_of_ble_eq_true rfl) rfl rfl ?_
  refine sw_nm (fun g5 eg5 => ?_)
  have zg5 := (congrFun eg5 135).trans (up_s (h := g4) (i := 135))
  refine sw_aload_n (pc' := 33) rfl dX5_init_32 rfl ?_
  refine sw_bipush (pc' := 35) (v := 6) rfl dX5_init_33 (by decide +kernel) ?_
  refine sw_newa (t := 0) (len := 6) (pc' := 37) rfl dX5_init_35 (by decide +kernel) w_101 rfl (by decide +kernel) (by omega) (by omega) ?_
  refine sw_nm (fun g6 eg6 => ?_)
  have zg6 := (congrFun eg6 150).trans (up_s (h := g5) (i := 150))
  refine sw_dup (pc' := 38) rfl dX5_init_37 rfl ?_
  refine sw_iconst (pc' := 39) (v := 0) rfl dX5_init_38 (by decide +kernel) ?_
  refine sw_iconst (pc' := 40) (v := (-1)) rfl dX5_init_39 (by decide +kernel) ?_
  refine sw_iast (j := 0) (pc' := 41) rfl dX5_init_40 zg6 (by show 100 ≤ _; omega) rfl (by omega) (by decide +kernel) ?_
  refine sw_nm (fun g7 eg7 => ?_)
  have zg7 := (congrFun eg7 150).trans (up_s (h := g6) (i := 150))
  refine sw_dup (pc' := 42) rfl dX5_init_41 rfl ?_
  refine sw_iconst (pc' := 43) (v := 1) rfl dX5_init_42 (by decide +kernel) ?_
  refine sw_iconst (pc' := 44) (v := (-1)) rfl dX5_init_43 (by decide +kernel) ?_
  refine sw_iast (j := 1) (pc' := 45) rfl dX5_init_44 zg7 (by show 100 ≤ _; omega) rfl (by omega) (by decide +kernel) ?_
  refine sw_nm (fun g8 eg8 => ?_)
  have zg8 := (congrFun eg8 150).trans (up_s (h := g7) (i := 150))
  refine sw_dup (pc' := 46) rfl dX5_init_45 rfl ?_
  refine sw_iconst (pc' := 47) (v := 2) rfl dX5_init_46 (by decide +kernel) ?_
  refine sw_iconst (pc' := 48) (v := (-1)) rfl dX5_init_47 (by decide +kernel) ?_
  refine sw_iast (j := 2) (pc' := 49) rfl dX5_init_48 zg8 (by show 100 ≤ _; omega) rfl (by omega) (by decide +kernel) ?_
  refine sw_nm (fun g9 eg9 => ?_)
  have zg9 := (congrFun eg9 150).trans (up_s (h := g8) (i := 150))
  refine sw_dup (pc' := 50) rfl dX5_init_49 rfl ?_
  refine sw_iconst (pc' := 51) (v := 3) rfl dX5_init_50 (by decide +kernel) ?_
  refine sw_iconst (pc' := 52) (v := (-1)) rfl dX5_init_51 (by decide +kernel) ?_
  refine sw_iast (j := 3) (pc' := 53) rfl dX5_init_52 zg9 (by show 100 ≤ _; omega) rfl (by omega) (by decide +kernel) ?_
  refine sw_nm (fun g10 eg10 => ?_)
  have zg10 := (congrFun eg10 150).trans (up_s (h := g9) (i := 150))
  refine sw_dup (pc' := 54) rfl dX5_init_53 rfl ?_
  refine sw_iconst (pc' := 55) (v := 4) rfl dX5_init_54 (by decide +kernel) ?_
  refine sw_iconst (pc' := 56) (v := (-1)) rfl dX5_init_55 (by decide +kernel) ?_
  refine sw_iast (j := 4) (pc' := 57) rfl dX5_init_56 zg10 (by show 100 ≤ _; omega) rfl (by omega) (by decide +kernel) ?_
  refine sw_nm (fun g11 eg11 => ?_)
  have zg11 := (congrFun eg11 150).trans (up_s (h := g10) (i := 150))
  refine sw_dup (pc' := 58) rfl dX5_init_57 rfl ?_
  refine sw_iconst (pc' := 59) (v := 5) rfl dX5_init_58 (by decide +kernel) ?_
  refine sw_iconst (pc' := 60) (v := (-1)) rfl dX5_init_59 (by decide +kernel) ?_
  refine sw_iast (j := 5) (pc' := 61) rfl dX5_init_60 zg11 (by show 100 ≤ _; omega) rfl (by omega) (by decide +kernel) ?_
  refine sw_nm (fun g12 eg12 => ?_)
  have zg12 := (congrFun eg12 150).trans (up_s (h := g11) (i := 150))
  refine sw_putfF (ci := 6) (k := 6) (pc' := 64) rfl dX5_init_61 (by decide +kernel) (by decide +kernel) w_1119 rfl rfl rfl (((congrFun eg12 135).trans (up_n (by omega))).trans (((congrFun eg11 135).trans (up_n (by omega))).trans (((congrFun eg10 135).trans (up_n (by omega))).trans (((congrFun eg9 135).trans (up_n (by omega))).trans (((congrFun eg8 135).trans (up_n (by omega))).trans (((congrFun eg7 135).trans (up_n (by omega))).trans (((congrFun eg6 135).trans (up_n (by omega))).trans zg5))))))) (by show 100 ≤ _; omega) (Nat.le_of_ble_eq_true rfl) rfl rfl ?_
  refine sw_nm (fun g13 eg13 => ?_)
  have zg13 := (congrFun eg13 135).trans (up_s (h := g12) (i := 135))
  refine sw_aload_n (pc' := 65) rfl dX5_init_64 rfl ?_
  refine sw_bipush (pc' := 67) (v := 6) rfl dX5_init_65 (by decide +kernel) ?_
  refine sw_newa (t := 0) (len := 6) (pc' := 69) rfl dX5_init_67 (by decide +kernel) w_101 rfl (by decide +kernel) (by omega) (by omega) ?_
  refine sw_nm (fun g14 eg14 => ?_)
  have zg14 := (congrFun eg14 151).trans (up_s (h := g13) (i := 151))
  refine sw_putfF (ci := 6) (k := 7) (pc' := 72) rfl dX5_init_69 (by decide +kernel) (by decide +kernel) w_1120 rfl rfl rfl (((congrFun eg14 135).trans (up_n (by omega))).trans zg13) (by show 100 ≤ _; omega) (Nat.le_of_ble_eq_true rfl) rfl rfl ?_
  refine sw_nm (fun g15 eg15 => ?_)
  have zg15 := (congrFun eg15 135).trans (up_s (h := g14) (i := 135))
  refine sw_aload_n (pc' := 73) rfl dX5_init_72 rfl ?_
  refine sw_bipush (pc' := 75) (v := 6) rfl dX5_init_73 (by decide +kernel) ?_
  refine sw_newa (t := 0) (len := 6) (pc' := 77) rfl dX5_init_75 (by decide +kernel) w_101 rfl (by decide +kernel) (by omega) (by omega) ?_
  refine sw_nm (fun g16 eg16 => ?_)
  have zg16 := (congrFun eg16 152).trans (up_s (h := g15) (i := 152))
  refine sw_putfF (ci := 6) (k := 8) (pc' := 80) rfl dX5_init_77 (by decide +kernel) (by decide +kernel) w_1121 rfl rfl rfl (((congrFun eg16 135).trans (up_n (by omega))).trans zg15) (by show 100 ≤ _; omega) (Nat.le_of_ble_eq_true rfl) rfl rfl ?_
  refine sw_nm (fun g17 eg17 => ?_)
  have zg17 := (congrFun eg17 135).trans (up_s (h := g16) (i := 135))
  refine sw_aload_n (pc' := 81) rfl dX5_init_80 rfl ?_
  refine sw_bipush (pc' := 83) (v := 6) rfl dX5_init_81 (by decide +kernel) ?_
  refine sw_newa (t := 0) (len := 6) (pc' := 85) rfl dX5_init_83 (by decide +kernel) w_101 rfl (by decide +kernel) (by omega) (by omega) ?_
  refine sw_nm (fun g18 eg18 => ?_)
  have zg18 := (congrFun eg18 153).trans (up_s (h := g17) (i := 153))
  refine sw_putfF (ci := 6) (k := 9) (pc' := 88) rfl dX5_init_85 (by decide +kernel) (by decide +kernel) w_1122 rfl rfl rfl (((congrFun eg18 135).trans (up_n (by omega))).trans zg17) (by show 100 ≤ _; omega) (Nat.le_of_ble_eq_true rfl) rfl rfl ?_
  refine sw_nm (fun g19 eg19 => ?_)
  have zg19 := (congrFun eg19 135).trans (up_s (h := g18) (i := 135))
  refine sw_aload_n (pc' := 89) rfl dX5_init_88 rfl ?_
  refine sw_bipush (pc' := 91) (v := 6) rfl dX5_init_89 (by decide +kernel) ?_
  refine sw_newa (t := 0) (len := 6) (pc' := 93) rfl dX5_init_91 (by decide +kernel) w_101 rfl (by decide +kernel) (by omega) (by omega) ?_
  refine sw_nm (fun g20 eg20 => ?_)
  have zg20 := (congrFun eg20 154).trans (up_s (h := g19) (i := 154))
  refine sw_putfF (ci := 6) (k := 10) (pc' := 96) rfl dX5_init_93 (by decide +kernel) (by decide +kernel) w_1123 rfl rfl rfl (((congrFun eg20 135).trans (up_n (by omega))).trans zg19) (by show 100 ≤ _; omega) (Nat.le_of_ble_eq_true rfl) rfl rfl ?_
  refine sw_nm (fun g21 eg21 => ?_)
  have zg21 := (congrFun eg21 135).trans (up_s (h := g20) (i := 135))
  refine sw_aload_n (pc' := 97) rfl dX5_init_96 rfl ?_
  refine sw_bipush (pc' := 99) (v := 6) rfl dX5_init_97 (by decide +kernel) ?_
  refine sw_newa (t := 1) (len := 6) (pc' := 101) rfl dX5_init_99 (by decide +kernel) w_1156 rfl (by decide +kernel) (by omega) (by omega) ?_
  refine sw_nm (fun g22 eg22 => ?_)
  have zg22 := (congrFun eg22 155).trans (up_s (h := g21) (i := 155))
  refine sw_putfF (ci := 6) (k := 11) (pc' := 104) rfl dX5_init_101 (by decide +kernel) (by decide +kernel) w_1124 rfl rfl rfl (((congrFun eg22 135).trans (up_n (by omega))).trans zg21) (by show 100 ≤ _; omega) (Nat.le_of_ble_eq_true rfl) rfl rfl ?_
  refine sw_nm (fun g23 eg23 => ?_)
  have zg23 := (congrFun eg23 135).trans (up_s (h := g22) (i := 135))
  refine sw_aload_n (pc' := 105) rfl dX5_init_104 rfl ?_
  refine sw_bipush (pc' := 107) (v := 11) rfl dX5_init_105 (by decide +kernel) ?_
  refine sw_newa (t := 0) (len := 11) (pc' := 109) rfl dX5_init_107 (by decide +kernel) w_101 rfl (by decide +kernel) (by omega) (by omega) ?_
  refine sw_nm (fun g24 eg24 => ?_)
  have zg24 := (congrFun eg24 156).trans (up_s (h := g23) (i := 156))
  refine sw_putfF (ci := 6) (k := 12) (pc' := 112) rfl dX5_init_109 (by decide +kernel) (by decide +kernel) w_1125 rfl rfl rfl (((congrFun eg24 135).trans (up_n (by omega))).trans zg23) (by show 100 ≤ _; omega) (Nat.le_of_ble_eq_true rfl) rfl rfl ?_
  refine sw_nm (fun g25 eg25 => ?_)
  have zg25 := (congrFun eg25 135).trans (up_s (h := g24) (i := 135))
  refine sw_aload_n (pc' := 113) rfl dX5_init_112 rfl ?_
  refine sw_bipush (pc' := 115) (v := 6) rfl dX5_init_113 (by decide +kernel) ?_
  refine sw_newa (t := 0) (len := 6) (pc' := 117) rfl dX5_init_115 (by decide +kernel) w_101 rfl (by decide +kernel) (by omega) (by omega) ?_
  refine sw_nm (fun g26 eg26 => ?_)
  have zg26 := (congrFun eg26 157).trans (up_s (h := g25) (i := 157))
  refine sw_putfF (ci := 6) (k := 13) (pc' := 120) rfl dX5_init_117 (by decide +kernel) (by decide +kernel) w_1126 rfl rfl rfl (((congrFun eg26 135).trans (up_n (by omega))).trans zg25) (by show 100 ≤ _; omega) (Nat.le_of_ble_eq_true rfl) rfl rfl ?_
  refine sw_nm (fun g27 eg27 => ?_)
  have zg27 := (congrFun eg27 135).trans (up_s (h := g26) (i := 135))
  refine sw_ret (v := none) ⟨dX5_init_120, rfl⟩ ?_
  refine ⟨rfl, rfl, ⟨fun _ _ => 0, fun _ => 0, ⟨zg27, ⟨_, ((congrFun eg27 136).trans ((up_n (by omega)).trans ((congrFun eg26 136).trans ((up_n (by omega)).trans ((congrFun eg25 136).trans ((up_n (by omega)).trans ((congrFun eg24 136).trans ((up_n (by omega)).trans ((congrFun eg23 136).trans ((up_n (by omega)).trans ((congrFun eg22 136).trans ((up_n (by omega)).trans ((congrFun eg21 136).trans ((up_n (by omega)).trans ((congrFun eg20 136).trans ((up_n (by omega)).trans ((congrFun eg19 136).trans ((up_n (by omega)).trans ((congrFun eg18 136).trans ((up_n (by omega)).trans ((congrFun eg17 136).trans ((up_n (by omega)).trans ((congrFun eg16 136).trans ((up_n (by omega)).trans ((congrFun eg15 136).trans ((up_n (by omega)).trans ((congrFun eg14 136).trans ((up_n (by omega)).trans ((congrFun eg13 136).trans ((up_n (by omega)).trans ((congrFun eg12 136).trans ((up_n (by omega)).trans ((congrFun eg11 136).trans ((up_n (by omega)).trans ((congrFun eg10 136).trans ((up_n (by omega)).trans ((congrFun eg9 136).trans ((up_n (by omega)).trans ((congrFun eg8 136).trans ((up_n (by omega)).trans ((congrFun eg7 136).trans ((up_n (by omega)).trans ((congrFun eg6 136).trans ((up_n (by omega)).trans ((congrFun eg5 136).trans ((up_n (by omega)).trans ((congrFun eg4 136).trans ((up_n (by omega)).trans ((congrFun eg3 136).trans ((up_n (by omega)).trans ((congrFun eg2 136).trans ((up_n (by omega)).trans ((congrFun eg1 136).trans ((up_n (by omega)).trans (rfl))))))))))))))))))))))))))))))))))))))))))))))))))))))).trans p136, fun k hk => (if_pos hk).trans (by rw [show 136 + 1 + k = 137 + k by omega])⟩, fun k hk => ((congrFun eg27 (137 + k)).trans ((up_n (by omega)).trans ((congrFun eg26 (137 + k)).trans ((up_n (by omega)).trans ((congrFun eg25 (137 + k)).trans ((up_n (by omega)).trans ((congrFun eg24 (137 + k)).trans ((up_n (by omega)).trans ((congrFun eg23 (137 + k)).trans ((up_n (by omega)).trans ((congrFun eg22 (137 + k)).trans ((up_n (by omega)).trans ((congrFun eg21 (137 + k)).trans ((up_n (by omega)).trans ((congrFun eg20 (137 + k)).trans ((up_n (by omega)).trans ((congrFun eg19 (137 + k)).trans ((up_n (by omega)).trans ((congrFun eg18 (137 + k)).trans ((up_n (by omega)).trans ((congrFun eg17 (137 + k)).trans ((up_n (by omega)).trans ((congrFun eg16 (137 + k)).trans ((up_n (by omega)).trans ((congrFun eg15 (137 + k)).trans ((up_n (by omega)).trans ((congrFun eg14 (137 + k)).trans ((up_n (by omega)).trans ((congrFun eg13 (137 + k)).trans ((up_n (by omega)).trans ((congrFun eg12 (137 + k)).trans ((up_n (by omega)).trans ((congrFun eg11 (137 + k)).trans ((up_n (by omega)).trans ((congrFun eg10 (137 + k)).trans ((up_n (by omega)).trans ((congrFun eg9 (137 + k)).trans ((up_n (by omega)).trans ((congrFun eg8 (137 + k)).trans ((up_n (by omega)).trans ((congrFun eg7 (137 + k)).trans ((up_n (by omega)).trans ((congrFun eg6 (137 + k)).trans ((up_n (by omega)).trans ((congrFun eg5 (137 + k)).trans ((up_n (by omega)).trans ((congrFun eg4 (137 + k)).trans ((up_n (by omega)).trans ((congrFun eg3 (137 + k)).trans ((up_n (by omega)).trans ((congrFun eg2 (137 + k)).trans ((up_n (by omega)).trans ((congrFun eg1 (137 + k)).trans ((up_n (by omega)).trans (rfl))))))))))))))))))))))))))))))))))))))))))))))))))))))).trans (prow k hk), (((congrFun eg27 148).trans (up_n (by omega))).trans (((congrFun eg26 148).trans (up_n (by omega))).trans (((congrFun eg25 148).trans (up_n (by omega))).trans (((congrFun eg24 148).trans (up_n (by omega))).trans (((congrFun eg23 148).trans (up_n (by omega))).trans (((congrFun eg22 148).trans (up_n (by omega))).trans (((congrFun eg21 148).trans (up_n (by omega))).trans (((congrFun eg20 148).trans (up_n (by omega))).trans (((congrFun eg19 148).trans (up_n (by omega))).trans (((congrFun eg18 148).trans (up_n (by omega))).trans (((congrFun eg17 148).trans (up_n (by omega))).trans (((congrFun eg16 148).trans (up_n (by omega))).trans (((congrFun eg15 148).trans (up_n (by omega))).trans (((congrFun eg14 148).trans (up_n (by omega))).trans (((congrFun eg13 148).trans (up_n (by omega))).trans (((congrFun eg12 148).trans (up_n (by omega))).trans (((congrFun eg11 148).trans (up_n (by omega))).trans (((congrFun eg10 148).trans (up_n (by omega))).trans (((congrFun eg9 148).trans (up_n (by omega))).trans (((congrFun eg8 148).trans (up_n (by omega))).trans (((congrFun eg7 148).trans (up_n (by omega))).trans (((congrFun eg6 148).trans (up_n (by omega))).trans (((congrFun eg5 148).trans (up_n (by omega))).trans (((congrFun eg4 148).trans (up_n (by omega))).trans (((congrFun eg3 148).trans (up_n (by omega))).trans zg2))))))))))))))))))))))))), (((congrFun eg27 149).trans (up_n (by omega))).trans (((congrFun eg26 149).trans (up_n (by omega))).trans (((congrFun eg25 149).trans (up_n (by omega))).trans (((congrFun eg24 149).trans (up_n (by omega))).trans (((congrFun eg23 149).trans (up_n (by omega))).trans (((congrFun eg22 149).trans (up_n (by omega))).trans (((congrFun eg21 149).trans (up_n (by omega))).trans (((congrFun eg20 149).trans (up_n (by omega))).trans (((congrFun eg19 149).trans (up_n (by omega))).trans (((congrFun eg18 149).trans (up_n (by omega))).trans (((congrFun eg17 149).trans (up_n (by omega))).trans (((congrFun eg16 149).trans (up_n (by omega))).trans (((congrFun eg15 149).trans (up_n (by omega))).trans (((congrFun eg14 149).trans (up_n (by omega))).trans (((congrFun eg13 149).trans (up_n (by omega))).trans (((congrFun eg12 149).trans (up_n (by omega))).trans (((congrFun eg11 149).trans (up_n (by omega))).trans (((congrFun eg10 149).trans (up_n (by omega))).trans (((congrFun eg9 149).trans (up_n (by omega))).trans (((congrFun eg8 149).trans (up_n (by omega))).trans (((congrFun eg7 149).trans (up_n (by omega))).trans (((congrFun eg6 149).trans (up_n (by omega))).trans (((congrFun eg5 149).trans (up_n (by omega))).trans zg4))))))))))))))))))))))), sh_s0 ▸ (((congrFun eg27 150).trans (up_n (by omega))).trans (((congrFun eg26 150).trans (up_n (by omega))).trans (((congrFun eg25 150).trans (up_n (by omega))).trans (((congrFun eg24 150).trans (up_n (by omega))).trans (((congrFun eg23 150).trans (up_n (by omega))).trans (((congrFun eg22 150).trans (up_n (by omega))).trans (((congrFun eg21 150).trans (up_n (by omega))).trans (((congrFun eg20 150).trans (up_n (by omega))).trans (((congrFun eg19 150).trans (up_n (by omega))).trans (((congrFun eg18 150).trans (up_n (by omega))).trans (((congrFun eg17 150).trans (up_n (by omega))).trans (((congrFun eg16 150).trans (up_n (by omega))).trans (((congrFun eg15 150).trans (up_n (by omega))).trans (((congrFun eg14 150).trans (up_n (by omega))).trans (((congrFun eg13 150).trans (up_n (by omega))).trans zg12))))))))))))))), (((congrFun eg27 151).trans (up_n (by omega))).trans (((congrFun eg26 151).trans (up_n (by omega))).trans (((congrFun eg25 151).trans (up_n (by omega))).trans (((congrFun eg24 151).trans (up_n (by omega))).trans (((congrFun eg23 151).trans (up_n (by omega))).trans (((congrFun eg22 151).trans (up_n (by omega))).trans (((congrFun eg21 151).trans (up_n (by omega))).trans (((congrFun eg20 151).trans (up_n (by omega))).trans (((congrFun eg19 151).trans (up_n (by omega))).trans (((congrFun eg18 151).trans (up_n (by omega))).trans (((congrFun eg17 151).trans (up_n (by omega))).trans (((congrFun eg16 151).trans (up_n (by omega))).trans (((congrFun eg15 151).trans (up_n (by omega))).trans zg14))))))))))))), (((congrFun eg27 152).trans (up_n (by omega))).trans (((congrFun eg26 152).trans (up_n (by omega))).trans (((congrFun eg25 152).trans (up_n (by omega))).trans (((congrFun eg24 152).trans (up_n (by omega))).trans (((congrFun eg23 152).trans (up_n (by omega))).trans (((congrFun eg22 152).trans (up_n (by omega))).trans (((congrFun eg21 152).trans (up_n (by omega))).trans (((congrFun eg20 152).trans (up_n (by omega))).trans (((congrFun eg19 152).trans (up_n (by omega))).trans (((congrFun eg18 152).trans (up_n (by omega))).trans (((congrFun eg17 152).trans (up_n (by omega))).trans zg16))))))))))), (((congrFun eg27 153).trans (up_n (by omega))).trans (((congrFun eg26 153).trans (up_n (by omega))).trans (((congrFun eg25 153).trans (up_n (by omega))).trans (((congrFun eg24 153).trans (up_n (by omega))).trans (((congrFun eg23 153).trans (up_n (by omega))).trans (((congrFun eg22 153).trans (up_n (by omega))).trans (((congrFun eg21 153).trans (up_n (by omega))).trans (((congrFun eg20 153).trans (up_n (by omega))).trans (((congrFun eg19 153).trans (up_n (by omega))).trans zg18))))))))), wa_s0 ▸ (((congrFun eg27 154).trans (up_n (by omega))).trans (((congrFun eg26 154).trans (up_n (by omega))).trans (((congrFun eg25 154).trans (up_n (by omega))).trans (((congrFun eg24 154).trans (up_n (by omega))).trans (((congrFun eg23 154).trans (up_n (by omega))).trans (((congrFun eg22 154).trans (up_n (by omega))).trans (((congrFun eg21 154).trans (up_n (by omega))).trans zg20))))))), (((congrFun eg27 155).trans (up_n (by omega))).trans (((congrFun eg26 155).trans (up_n (by omega))).trans (((congrFun eg25 155).trans (up_n (by omega))).trans (((congrFun eg24 155).trans (up_n (by omega))).trans (((congrFun eg23 155).trans (up_n (by omega))).trans zg22))))), (((congrFun eg27 156).trans (up_n (by omega))).trans (((congrFun eg26 156).trans (up_n (by omega))).trans (((congrFun eg25 156).trans (up_n (by omega))).trans zg24))), (((congrFun eg27 157).trans (up_n (by omega))).trans zg26)⟩, fun _ _ j hj => absurd hj (Nat.not_lt_zero _), fun _ _ e => by cases e⟩, fun i hi => ((congrFun eg27 i).trans ((up_n (by omega)).trans ((congrFun eg26 i).trans ((up_n (by omega)).trans ((congrFun eg25 i).trans ((up_n (by omega)).trans ((congrFun eg24 i).trans ((up_n (by omega)).trans ((congrFun eg23 i).trans ((up_n (by omega)).trans ((congrFun eg22 i).trans ((up_n (by omega)).trans ((congrFun eg21 i).trans ((up_n (by omega)).trans ((congrFun eg20 i).trans ((up_n (by omega)).trans ((congrFun eg19 i).trans ((up_n (by omega)).trans ((congrFun eg18 i).trans ((up_n (by omega)).trans ((congrFun eg17 i).trans ((up_n (by omega)).trans ((congrFun eg16 i).trans ((up_n (by omega)).trans ((congrFun eg15 i).trans ((up_n (by omega)).trans ((congrFun eg14 i).trans ((up_n (by omega)).trans ((congrFun eg13 i).trans ((up_n (by omega)).trans ((congrFun eg12 i).trans ((up_n (by omega)).trans ((congrFun eg11 i).trans ((up_n (by omega)).trans ((congrFun eg10 i).trans ((up_n (by omega)).trans ((congrFun eg9 i).trans ((up_n (by omega)).trans ((congrFun eg8 i).trans ((up_n (by omega)).trans ((congrFun eg7 i).trans ((up_n (by omega)).trans ((congrFun eg6 i).trans ((up_n (by omega)).trans ((congrFun eg5 i).trans ((up_n (by omega)).trans ((congrFun eg4 i).trans ((up_n (by omega)).trans ((congrFun eg3 i).trans ((up_n (by omega)).trans ((congrFun eg2 i).trans ((up_n (by omega)).trans ((congrFun eg1 i).trans ((up_n (by omega)).trans (rfl))))))))))))))))))))))))))))))))))))))))))))))))))))))).trans (pF i (by omega))⟩
