/-! Walk: its picture, its methods -/
def WkF (h : AH) (w : Nat) (mk : Bool) (b : Nat) (sh hw gi tk ss ts : Int32) (la : Bool) : Prop := h w = .inr (3, [.int (bI mk), .ref b, .int sh, .int hw, .int gi, .int tk, .int ss, .int ts, .int (bI la)]) ∧ nC ≤ w
def FrW (h h' : AH) (w : Nat) : Prop := ∀ i, i ≠ w → h' i = h i
theorem FrW.rf {h : AH} {b : Nat} : FrW h h b := fun _ _ => rfl
theorem FrW.tr {h h1 h2 : AH} {b : Nat} (a : FrW h h1 b) (c : FrW h1 h2 b) : FrW h h2 b := fun i p => (c i p).trans (a i p)
def WkP (h : AH) (w : Nat) (r : Option Value) (mk : Bool) (b : Nat) (sh hw gi tk ss ts : Int32) (la : Bool) (n : Nat) : ARes → AH → Nat → Prop := fun r' h' n' => r' = .inl r ∧ n' = n ∧ WkF h' w mk b sh hw gi tk ss ts la ∧ FrW h h' w
theorem wkp_k {A : Nat → AH → Option Value → Prop} {h : AH} {w b n n0 : Nat} {mk la : Bool} {r : Option Value} {sh hw gi tk ss ts : Int32} (k : ∀ h', WkF h' w mk b sh hw gi tk ss ts la → FrW h h' w → A n h' r) : ∀ (v : Option Value) (h' : AH) (n' : Nat), n0 ≤ n' → WkP h w r mk b sh hw gi tk ss ts la n (.inl v) h' n' → A n' h' v := by
  rintro v h' n' - ⟨e, rfl, g1, g2⟩
  cases e
  exact k h' g1 g2
theorem wkp_x {A : Prop} {h : AH} {w b n : Nat} {mk la : Bool} {r : Option Value} {sh hw gi tk ss ts : Int32} {E : String} {h' : AH} {n' : Nat} (z : WkP h w r mk b sh hw gi tk ss ts la n (.inr E) h' n') : A := by cases z.1
theorem ShF.frW {h h' : AH} {w b kd c : Nat} {f : Nat → Int32} {s t : Int32} (hS : ShF h b kd f c s t) (hF : FrW h h' w) (h1 : b ≠ w ∧ b + 1 ≠ w) : ShF h' b kd f c s t := ⟨(hF _ h1.1).trans hS.1, (hF _ h1.2).trans hS.2.1, hS.2.2⟩
theorem KdF.frW {h h' : AH} {k w : Nat} (hK : KdF h k) (hF : FrW h h' w) (hb : nC ≤ w) : KdF h' k := by
  have hb2 : 100 ≤ w := hb
  have h1 := hK.1
  exact ⟨hK.1, (hF k (by omega)).trans hK.2⟩
theorem WkF.frS {h h' : AH} {w b2 b : Nat} {mk la : Bool} {sh hw gi tk ss ts : Int32} (hW : WkF h w mk b sh hw gi tk ss ts la) (hF : FrS h h' b2) (h1 : w ≠ b2 ∧ w ≠ b2 + 1) : WkF h' w mk b sh hw gi tk ss ts la := ⟨(hF _ h1.1 h1.2).trans hW.1, hW.2⟩
theorem WkF.frW {h h' : AH} {w w2 b : Nat} {mk la : Bool} {sh hw gi tk ss ts : Int32} (hW : WkF h w mk b sh hw gi tk ss ts la) (hF : FrW h h' w2) (h1 : w ≠ w2) : WkF h' w mk b sh hw gi tk ss ts la := ⟨(hF _ h1).trans hW.1, hW.2⟩
/-- not stale, and something is ahead -/
def hmB (c : Nat) (s gi tk ss : Int32) : Bool := !decide (s ≠ ss) && decide (gi - tk < nI c)
/-- how many of m steps are made -/
def guN (c : Nat) (s tk ss : Int32) : Int32 → Nat → Nat
  | _, 0 => 0
  | gi, m + 1 => if hmB c s gi tk ss then guN c s tk ss (gi + 1) m + 1 else 0
theorem guN_le {c : Nat} {s tk ss : Int32} {m : Nat} : ∀ {gi : Int32}, guN c s tk ss gi m ≤ m := by
  induction m with
  | zero => intro gi; exact Nat.le_refl _
  | succ m ih =>
    intro gi
    unfold guN
    split
    · exact Nat.succ_le_succ ih
    · exact Nat.zero_le _
theorem nI_add1 (x : Int32) (k : Nat) : x + 1 + nI k = x + nI (k + 1) := by
  rw [Int32.add_assoc, show (1 : Int32) = nI 1 from rfl, nI_add, Nat.add_comm 1 k]
theorem m_isStale {h : AH} {b kd c d bc bs n w : Nat} {f : Nat → Int32} {s t sh hw gi tk ss ts : Int32} {mk la : Bool} (hW : WkF h w mk b sh hw gi tk ss ts la) (hS : ShF h b kd f c s t) : SM SR0 MX2_isStale d bc bs [.ref w] h n (Det (.inl (some (.int (bI (decide (s ≠ ss)))))) h n) := by
  refine sm_of pn_Overwalks_Walk rfl (Nat.le_of_ble_eq_true rfl) ?_
  refine sw_aload_n (pc' := 1) rfl dX2_isStale_0 rfl ?_
  refine sw_getf (ci := 3) (k := 1) (pc' := 4) rfl dX2_isStale_1 (by decide +kernel) w_119 hW.1 rfl ?_
  refine sw_getf (ci := 2) (k := 3) (pc' := 7) rfl dX2_isStale_4 (by decide +kernel) w_86 hS.1 rfl ?_
  refine sw_aload_n (pc' := 8) rfl dX2_isStale_7 rfl ?_
  refine sw_getf (ci := 3) (k := 6) (pc' := 11) rfl dX2_isStale_8 (by decide +kernel) w_128 hW.1 rfl ?_
  refine sw_icmp_eq (pc' := 14) (tgt := 18) rfl dX2_isStale_11 (by decide +kernel) (fun c11 => ?_) (fun c11 => ?_)
  · refine sw_iconst (pc' := 19) (v := 0) rfl dX2_isStale_18 (by decide +kernel) ?_
    refine sw_ret (v := some _) ⟨dX2_isStale_19, _, rfl, rfl⟩ ?_
    exact ⟨by rw [decide_eq_false (fun q => q c11)]; rfl, rfl, rfl⟩
  · refine sw_iconst (pc' := 15) (v := 1) rfl dX2_isStale_14 (by decide +kernel) ?_
    refine sw_goto (tgt := 19) dX2_isStale_15 (by decide +kernel) ?_
    refine sw_ret (v := some _) ⟨dX2_isStale_19, _, rfl, rfl⟩ ?_
    exact ⟨by rw [decide_eq_true c11]; rfl, rfl, rfl⟩
theorem m_ahead {h : AH} {b d bc bs n w : Nat} {sh hw gi tk ss ts : Int32} {mk la : Bool} (hW : WkF h w mk b sh hw gi tk ss ts la) : SM SR0 MX2_ahead d bc bs [.ref w] h n (Det (.inl (some (.int (gi - tk)))) h n) := by
  refine sm_of pn_Overwalks_Walk rfl (Nat.le_of_ble_eq_true rfl) ?_
  refine sw_aload_n (pc' := 1) rfl dX2_ahead_0 rfl ?_
  refine sw_getf (ci := 3) (k := 4) (pc' := 4) rfl dX2_ahead_1 (by decide +kernel) w_125 hW.1 rfl ?_
  refine sw_aload_n (pc' := 5) rfl dX2_ahead_4 rfl ?_
  refine sw_getf (ci := 3) (k := 5) (pc' := 8) rfl dX2_ahead_5 (by decide +kernel) w_127 hW.1 rfl ?_
  refine sw_isub (pc' := 9) rfl dX2_ahead_8 ?_
  refine sw_ret (v := some _) ⟨dX2_ahead_9, _, rfl, rfl⟩ ?_
  exact ⟨rfl, rfl, rfl⟩
theorem m_hasMore {h : AH} {b kd c d bc bs n w : Nat} {f : Nat → Int32} {s t sh hw gi tk ss ts : Int32} {mk la : Bool} (hW : WkF h w mk b sh hw gi tk ss ts la) (hS : ShF h b kd f c s t) (hd : 1 ≤ d) : SM SR0 MX2_hasMore d bc bs [.ref w] h n (Det (.inl (some (.int (bI (hmB c s gi tk ss))))) h n) := by
  refine sm_of pn_Overwalks_Walk rfl (Nat.le_of_ble_eq_true rfl) ?_
  refine sw_aload_n (pc' := 1) rfl dX2_hasMore_0 rfl ?_
  refine sw_V (M' := MX2_isStale) (d' := d - 1) (bc' := 0) (bs' := 0) (ci := 3) (as := []) dX2_hasMore_1 w_192 ok_X2_isStale (m_isStale hW hS) hW.1 rfl (by omega) (Nat.le_of_ble_eq_true rfl) (Nat.zero_le _) (Nat.zero_le _) (fun E h' n' _ z => det_x z) (det_k ?_)
  refine sw_if_ne (pc' := 7) (tgt := 25) rfl dX2_hasMore_4 (by decide +kernel) (fun c4 => ?_) (fun c4 => ?_)
  · refine sw_iconst (pc' := 26) (v := 0) rfl dX2_hasMore_25 (by decide +kernel) ?_
    refine sw_ret (v := some _) ⟨dX2_hasMore_26, _, rfl, rfl⟩ ?_
    exact ⟨by rw [hmB, bI_1 c4]; rfl, rfl, rfl⟩
  · refine sw_aload_n (pc' := 8) rfl dX2_hasMore_7 rfl ?_
    refine sw_V (M' := MX2_ahead) (d' := d - 1) (bc' := 0) (bs' := 0) (ci := 3) (as := []) dX2_hasMore_8 w_196 ok_X2_ahead (m_ahead hW) hW.1 rfl (by omega) (Nat.le_of_ble_eq_true rfl) (Nat.zero_le _) (Nat.zero_le _) (fun E h' n' _ z => det_x z) (det_k ?_)
    refine sw_aload_n (pc' := 12) rfl dX2_hasMore_11 rfl ?_
    refine sw_getf (ci := 3) (k := 1) (pc' := 15) rfl dX2_hasMore_12 (by decide +kernel) w_119 hW.1 rfl ?_
    refine sw_getf (ci := 2) (k := 2) (pc' := 18) rfl dX2_hasMore_15 (by decide +kernel) w_85 hS.1 rfl ?_
    refine sw_icmp_ge (pc' := 21) (tgt := 25) rfl dX2_hasMore_18 (by decide +kernel) (fun c18 => ?_) (fun c18 => ?_)
    · refine sw_iconst (pc' := 26) (v := 0) rfl dX2_hasMore_25 (by decide +kernel) ?_
      refine sw_ret (v := some _) ⟨dX2_hasMore_26, _, rfl, rfl⟩ ?_
      exact ⟨by rw [hmB, decide_eq_false (Int32.not_lt.mpr c18), Bool.and_false]; rfl, rfl, rfl⟩
    · refine sw_iconst (pc' := 22) (v := 1) rfl dX2_hasMore_21 (by decide +kernel) ?_
      refine sw_goto (tgt := 26) dX2_hasMore_22 (by decide +kernel) ?_
      refine sw_ret (v := some _) ⟨dX2_hasMore_26, _, rfl, rfl⟩ ?_
      exact ⟨by rw [hmB, bI_0 c4, decide_eq_true (Int32.not_le.mp c18)]; rfl, rfl, rfl⟩
theorem m_canGiveAll {h : AH} {b kd c d bc bs n w : Nat} {f : Nat → Int32} {s t sh hw gi tk ss ts : Int32} {mk la : Bool} (hW : WkF h w mk b sh hw gi tk ss ts la) (hS : ShF h b kd f c s t) (hd : 1 ≤ d) : SM SR0 MX2_canGiveAll d bc bs [.ref w] h n (Det (.inl (some (.int (bI (!decide (s ≠ ss) && decide (hw ≠ 1)))))) h n) := by
  refine sm_of pn_Overwalks_Walk rfl (Nat.le_of_ble_eq_true rfl) ?_
  refine sw_aload_n (pc' := 1) rfl dX2_canGiveAll_0 rfl ?_
  refine sw_V (M' := MX2_isStale) (d' := d - 1) (bc' := 0) (bs' := 0) (ci := 3) (as := []) dX2_canGiveAll_1 w_192 ok_X2_isStale (m_isStale hW hS) hW.1 rfl (by omega) (Nat.le_of_ble_eq_true rfl) (Nat.zero_le _) (Nat.zero_le _) (fun E h' n' _ z => det_x z) (det_k ?_)
  refine sw_if_ne (pc' := 7) (tgt := 19) rfl dX2_canGiveAll_4 (by decide +kernel) (fun c4 => ?_) (fun c4 => ?_)
  · refine sw_iconst (pc' := 20) (v := 0) rfl dX2_canGiveAll_19 (by decide +kernel) ?_
    refine sw_ret (v := some _) ⟨dX2_canGiveAll_20, _, rfl, rfl⟩ ?_
    exact ⟨by rw [bI_1 c4]; rfl, rfl, rfl⟩
  · refine sw_aload_n (pc' := 8) rfl dX2_canGiveAll_7 rfl ?_
    refine sw_getf (ci := 3) (k := 3) (pc' := 11) rfl dX2_canGiveAll_8 (by decide +kernel) w_123 hW.1 rfl ?_
    refine sw_iconst (pc' := 12) (v := 1) rfl dX2_canGiveAll_11 (by decide +kernel) ?_
    refine sw_icmp_eq (pc' := 15) (tgt := 19) rfl dX2_canGiveAll_12 (by decide +kernel) (fun c12 => ?_) (fun c12 => ?_)
    · refine sw_iconst (pc' := 20) (v := 0) rfl dX2_canGiveAll_19 (by decide +kernel) ?_
      refine sw_ret (v := some _) ⟨dX2_canGiveAll_20, _, rfl, rfl⟩ ?_
      exact ⟨by rw [show decide (hw ≠ 1) = false from decide_eq_false (fun q => q c12), Bool.and_false]; rfl, rfl, rfl⟩
    · refine sw_iconst (pc' := 16) (v := 1) rfl dX2_canGiveAll_15 (by decide +kernel) ?_
      refine sw_goto (tgt := 20) dX2_canGiveAll_16 (by decide +kernel) ?_
      refine sw_ret (v := some _) ⟨dX2_canGiveAll_20, _, rfl, rfl⟩ ?_
      exact ⟨by rw [bI_0 c4, decide_eq_true c12]; rfl, rfl, rfl⟩
theorem m_canTakeOut {h : AH} {b kd c d bc bs n w : Nat} {f : Nat → Int32} {s t sh hw gi tk ss ts : Int32} {mk la : Bool} (hW : WkF h w mk b sh hw gi tk ss ts la) (hS : ShF h b kd f c s t) : SM SR0 MX2_canTakeOut d bc bs [.ref w] h n (Det (.inl (some (.int (bI (la && decide (t = ts)))))) h n) := by
  refine sm_of pn_Overwalks_Walk rfl (Nat.le_of_ble_eq_true rfl) ?_
  refine sw_aload_n (pc' := 1) rfl dX2_canTakeOut_0 rfl ?_
  refine sw_getf (ci := 3) (k := 8) (pc' := 4) rfl dX2_canTakeOut_1 (by decide +kernel) w_130 hW.1 rfl ?_
  refine sw_if_eq (pc' := 7) (tgt := 25) rfl dX2_canTakeOut_4 (by decide +kernel) (fun c4 => ?_) (fun c4 => ?_)
  · refine sw_iconst (pc' := 26) (v := 0) rfl dX2_canTakeOut_25 (by decide +kernel) ?_
    refine sw_ret (v := some _) ⟨dX2_canTakeOut_26, _, rfl, rfl⟩ ?_
    exact ⟨by rw [bI_0 c4]; rfl, rfl, rfl⟩
  · refine sw_aload_n (pc' := 8) rfl dX2_canTakeOut_7 rfl ?_
    refine sw_getf (ci := 3) (k := 1) (pc' := 11) rfl dX2_canTakeOut_8 (by decide +kernel) w_119 hW.1 rfl ?_
    refine sw_getf (ci := 2) (k := 4) (pc' := 14) rfl dX2_canTakeOut_11 (by decide +kernel) w_88 hS.1 rfl ?_
    refine sw_aload_n (pc' := 15) rfl dX2_canTakeOut_14 rfl ?_
    refine sw_getf (ci := 3) (k := 7) (pc' := 18) rfl dX2_canTakeOut_15 (by decide +kernel) w_129 hW.1 rfl ?_
    refine sw_icmp_ne (pc' := 21) (tgt := 25) rfl dX2_canTakeOut_18 (by decide +kernel) (fun c18 => ?_) (fun c18 => ?_)
    · refine sw_iconst (pc' := 26) (v := 0) rfl dX2_canTakeOut_25 (by decide +kernel) ?_
      refine sw_ret (v := some _) ⟨dX2_canTakeOut_26, _, rfl, rfl⟩ ?_
      exact ⟨by rw [decide_eq_false c18, Bool.and_false]; rfl, rfl, rfl⟩
    · refine sw_iconst (pc' := 22) (v := 1) rfl dX2_canTakeOut_21 (by decide +kernel) ?_
      refine sw_goto (tgt := 26) dX2_canTakeOut_22 (by decide +kernel) ?_
      refine sw_ret (v := some _) ⟨dX2_canTakeOut_26, _, rfl, rfl⟩ ?_
      exact ⟨by rw [bI_1 c4, decide_eq_true c18]; rfl, rfl, rfl⟩
theorem m_give {h : AH} {b kd c d bc bs n w : Nat} {f : Nat → Int32} {s t sh hw gi tk ss ts : Int32} {mk la : Bool} (hW : WkF h w mk b sh hw gi tk ss ts la) (hS : ShF h b kd f c s t) (hne : b ≠ w ∧ b + 1 ≠ w) (hd : 1 ≤ d) : SM SR0 MX2_give d bc bs [.ref w] h n (WkP h w (some (.int (taI f c (gi - tk)))) mk b sh hw (gi + 1) tk ss t true n) := by
  refine sm_of pn_Overwalks_Walk rfl (Nat.le_of_ble_eq_true rfl) ?_
  refine sw_aload_n (pc' := 1) rfl dX2_give_0 rfl ?_
  refine sw_getf (ci := 3) (k := 1) (pc' := 4) rfl dX2_give_1 (by decide +kernel) w_119 hW.1 rfl ?_
  refine sw_aload_n (pc' := 5) rfl dX2_give_4 rfl ?_
  refine sw_V (M' := MX2_ahead) (d' := d - 1) (bc' := 0) (bs' := 0) (ci := 3) (as := []) dX2_give_5 w_196 ok_X2_ahead (m_ahead hW) hW.1 rfl (by omega) (Nat.le_of_ble_eq_true rfl) (Nat.zero_le _) (Nat.zero_le _) (fun E h' n' _ z => det_x z) (det_k ?_)
  refine sw_V (M' := MX1_thingAt) (d' := d - 1) (bc' := 0) (bs' := 0) (ci := 2) (as := [_]) dX2_give_8 w_204 ok_X1_thingAt (m_thingAt hS) hS.1 rfl (by omega) (Nat.le_of_ble_eq_true rfl) (Nat.zero_le _) (Nat.zero_le _) (fun E h' n' _ z => det_x z) (det_k ?_)
  refine sw_istore_n (pc' := 12) (lv' := [(1, _), (0, _)]) rfl dX2_give_11 (by decide +kernel) rfl ?_
  refine sw_aload_n (pc' := 13) rfl dX2_give_12 rfl ?_
  refine sw_dup (pc' := 14) rfl dX2_give_13 rfl ?_
  refine sw_getf (ci := 3) (k := 4) (pc' := 17) rfl dX2_give_14 (by decide +kernel) w_125 hW.1 rfl ?_
  refine sw_iconst (pc' := 18) (v := 1) rfl dX2_give_17 (by decide +kernel) ?_
  refine sw_iadd (pc' := 19) rfl dX2_give_18 ?_
  refine sw_putf (ci := 3) (k := 4) (pc' := 22) rfl dX2_give_19 (by decide +kernel) (by decide +kernel) w_125 rfl hW.1 hW.2 (Nat.le_of_ble_eq_true rfl) rfl rfl ?_
  refine sw_nm (fun g1 eg1 => ?_)
  have zk2 := (congrFun eg1 _).trans (up_s (h := h) (i := w))
  have zk3 := ((congrFun eg1 b).trans (up_n (h := h) (by omega))).trans hS.1
  have zk4 := ((congrFun eg1 (b + 1)).trans (up_n (h := h) (by omega))).trans hS.2.1
  refine sw_aload_n (pc' := 23) rfl dX2_give_22 rfl ?_
  refine sw_iconst (pc' := 24) (v := 1) rfl dX2_give_23 (by decide +kernel) ?_
  refine sw_putf (ci := 3) (k := 8) (pc' := 27) rfl dX2_give_24 (by decide +kernel) (by decide +kernel) w_130 rfl zk2 hW.2 (Nat.le_of_ble_eq_true rfl) rfl rfl ?_
  refine sw_nm (fun g5 eg5 => ?_)
  have zk6 := (congrFun eg5 _).trans (up_s (h := g1) (i := w))
  have zk7 := ((congrFun eg5 b).trans (up_n (h := g1) (by omega))).trans zk3
  have zk8 := ((congrFun eg5 (b + 1)).trans (up_n (h := g1) (by omega))).trans zk4
  refine sw_aload_n (pc' := 28) rfl dX2_give_27 rfl ?_
  refine sw_aload_n (pc' := 29) rfl dX2_give_28 rfl ?_
  refine sw_getf (ci := 3) (k := 1) (pc' := 32) rfl dX2_give_29 (by decide +kernel) w_119 zk6 rfl ?_
  refine sw_getf (ci := 2) (k := 4) (pc' := 35) rfl dX2_give_32 (by decide +kernel) w_88 zk7 rfl ?_
  refine sw_putf (ci := 3) (k := 7) (pc' := 38) rfl dX2_give_35 (by decide +kernel) (by decide +kernel) w_129 rfl zk6 hW.2 (Nat.le_of_ble_eq_true rfl) rfl rfl ?_
  refine sw_nm (fun g9 eg9 => ?_)
  have zk10 := (congrFun eg9 _).trans (up_s (h := g5) (i := w))
  have zk11 := ((congrFun eg9 b).trans (up_n (h := g5) (by omega))).trans zk7
  have zk12 := ((congrFun eg9 (b + 1)).trans (up_n (h := g5) (by omega))).trans zk8
  refine sw_iload_n (pc' := 39) rfl dX2_give_38 rfl ?_
  refine sw_ret (v := some _) ⟨dX2_give_39, _, rfl, rfl⟩ ?_
  exact ⟨rfl, rfl, ⟨zk10, hW.2⟩, (fun i h1 => (congrFun eg9 i).trans ((up_n h1).trans ((congrFun eg5 i).trans ((up_n h1).trans ((congrFun eg1 i).trans ((up_n h1).trans (rfl)))))))⟩
theorem m_tookOut {h : AH} {b kd c d bc bs n w : Nat} {f : Nat → Int32} {s t sh hw gi tk ss ts : Int32} {mk la : Bool} (hW : WkF h w mk b sh hw gi tk ss ts la) (hS : ShF h b kd f c s t) (hne : b ≠ w ∧ b + 1 ≠ w) : SM SR0 MX2_tookOut d bc bs [.ref w] h n (WkP h w none mk b sh hw gi (tk + 1) s ts false n) := by
  refine sm_of pn_Overwalks_Walk rfl (Nat.le_of_ble_eq_true rfl) ?_
  refine sw_aload_n (pc' := 1) rfl dX2_tookOut_0 rfl ?_
  refine sw_dup (pc' := 2) rfl dX2_tookOut_1 rfl ?_
  refine sw_getf (ci := 3) (k := 5) (pc' := 5) rfl dX2_tookOut_2 (by decide +kernel) w_127 hW.1 rfl ?_
  refine sw_iconst (pc' := 6) (v := 1) rfl dX2_tookOut_5 (by decide +kernel) ?_
  refine sw_iadd (pc' := 7) rfl dX2_tookOut_6 ?_
  refine sw_putf (ci := 3) (k := 5) (pc' := 10) rfl dX2_tookOut_7 (by decide +kernel) (by decide +kernel) w_127 rfl hW.1 hW.2 (Nat.le_of_ble_eq_true rfl) rfl rfl ?_
  refine sw_nm (fun g1 eg1 => ?_)
  have zk2 := (congrFun eg1 _).trans (up_s (h := h) (i := w))
  have zk3 := ((congrFun eg1 b).trans (up_n (h := h) (by omega))).trans hS.1
  have zk4 := ((congrFun eg1 (b + 1)).trans (up_n (h := h) (by omega))).trans hS.2.1
  refine sw_aload_n (pc' := 11) rfl dX2_tookOut_10 rfl ?_
  refine sw_iconst (pc' := 12) (v := 0) rfl dX2_tookOut_11 (by decide +kernel) ?_
  refine sw_putf (ci := 3) (k := 8) (pc' := 15) rfl dX2_tookOut_12 (by decide +kernel) (by decide +kernel) w_130 rfl zk2 hW.2 (Nat.le_of_ble_eq_true rfl) rfl rfl ?_
  refine sw_nm (fun g5 eg5 => ?_)
  have zk6 := (congrFun eg5 _).trans (up_s (h := g1) (i := w))
  have zk7 := ((congrFun eg5 b).trans (up_n (h := g1) (by omega))).trans zk3
  have zk8 := ((congrFun eg5 (b + 1)).trans (up_n (h := g1) (by omega))).trans zk4
  refine sw_aload_n (pc' := 16) rfl dX2_tookOut_15 rfl ?_
  refine sw_aload_n (pc' := 17) rfl dX2_tookOut_16 rfl ?_
  refine sw_getf (ci := 3) (k := 1) (pc' := 20) rfl dX2_tookOut_17 (by decide +kernel) w_119 zk6 rfl ?_
  refine sw_getf (ci := 2) (k := 3) (pc' := 23) rfl dX2_tookOut_20 (by decide +kernel) w_86 zk7 rfl ?_
  refine sw_putf (ci := 3) (k := 6) (pc' := 26) rfl dX2_tookOut_23 (by decide +kernel) (by decide +kernel) w_128 rfl zk6 hW.2 (Nat.le_of_ble_eq_true rfl) rfl rfl ?_
  refine sw_nm (fun g9 eg9 => ?_)
  have zk10 := (congrFun eg9 _).trans (up_s (h := g5) (i := w))
  have zk11 := ((congrFun eg9 b).trans (up_n (h := g5) (by omega))).trans zk7
  have zk12 := ((congrFun eg9 (b + 1)).trans (up_n (h := g5) (by omega))).trans zk8
  refine sw_ret (v := none) ⟨dX2_tookOut_26, rfl⟩ ?_
  exact ⟨rfl, rfl, ⟨zk10, hW.2⟩, (fun i h1 => (congrFun eg9 i).trans ((up_n h1).trans ((congrFun eg5 i).trans ((up_n h1).trans ((congrFun eg1 i).trans ((up_n h1).trans (rfl)))))))⟩
theorem m_begin {h : AH} {b kd c d bc bs n w : Nat} {f : Nat → Int32} {s t sh hw gi tk ss ts : Int32} {mk la : Bool} {b0 : Nat} {x y : Int32} (hW : WkF h w mk b0 sh hw gi tk ss ts la) (hS : ShF h b kd f c s t) (hne : b ≠ w ∧ b + 1 ≠ w) : SM SR0 MX2_begin d bc bs [.ref w, .ref b, .int x, .int y] h n (WkP h w none true b x y 0 0 s t false n) := by
  refine sm_of pn_Overwalks_Walk rfl (Nat.le_of_ble_eq_true rfl) ?_
  refine sw_aload_n (pc' := 1) rfl dX2_begin_0 rfl ?_
  refine sw_aload_n (pc' := 2) rfl dX2_begin_1 rfl ?_
  refine sw_putf (ci := 3) (k := 1) (pc' := 5) rfl dX2_begin_2 (by decide +kernel) (by decide +kernel) w_119 rfl hW.1 hW.2 (Nat.le_of_ble_eq_true rfl) rfl rfl ?_
  refine sw_nm (fun g1 eg1 => ?_)
  have zk2 := (congrFun eg1 _).trans (up_s (h := h) (i := w))
  have zk3 := ((congrFun eg1 b).trans (up_n (h := h) (by omega))).trans hS.1
  have zk4 := ((congrFun eg1 (b + 1)).trans (up_n (h := h) (by omega))).trans hS.2.1
  refine sw_aload_n (pc' := 6) rfl dX2_begin_5 rfl ?_
  refine sw_iload_n (pc' := 7) rfl dX2_begin_6 rfl ?_
  refine sw_putf (ci := 3) (k := 2) (pc' := 10) rfl dX2_begin_7 (by decide +kernel) (by decide +kernel) w_121 rfl zk2 hW.2 (Nat.le_of_ble_eq_true rfl) rfl rfl ?_
  refine sw_nm (fun g5 eg5 => ?_)
  have zk6 := (congrFun eg5 _).trans (up_s (h := g1) (i := w))
  have zk7 := ((congrFun eg5 b).trans (up_n (h := g1) (by omega))).trans zk3
  have zk8 := ((congrFun eg5 (b + 1)).trans (up_n (h := g1) (by omega))).trans zk4
  refine sw_aload_n (pc' := 11) rfl dX2_begin_10 rfl ?_
  refine sw_iload_n (pc' := 12) rfl dX2_begin_11 rfl ?_
  refine sw_putf (ci := 3) (k := 3) (pc' := 15) rfl dX2_begin_12 (by decide +kernel) (by decide +kernel) w_123 rfl zk6 hW.2 (Nat.le_of_ble_eq_true rfl) rfl rfl ?_
  refine sw_nm (fun g9 eg9 => ?_)
  have zk10 := (congrFun eg9 _).trans (up_s (h := g5) (i := w))
  have zk11 := ((congrFun eg9 b).trans (up_n (h := g5) (by omega))).trans zk7
  have zk12 := ((congrFun eg9 (b + 1)).trans (up_n (h := g5) (by omega))).trans zk8
  refine sw_aload_n (pc' := 16) rfl dX2_begin_15 rfl ?_
  refine sw_iconst (pc' := 17) (v := 1) rfl dX2_begin_16 (by decide +kernel) ?_
  refine sw_putf (ci := 3) (k := 0) (pc' := 20) rfl dX2_begin_17 (by decide +kernel) (by decide +kernel) w_117 rfl zk10 hW.2 (Nat.le_of_ble_eq_true rfl) rfl rfl ?_
  refine sw_nm (fun g13 eg13 => ?_)
  have zk14 := (congrFun eg13 _).trans (up_s (h := g9) (i := w))
  have zk15 := ((congrFun eg13 b).trans (up_n (h := g9) (by omega))).trans zk11
  have zk16 := ((congrFun eg13 (b + 1)).trans (up_n (h := g9) (by omega))).trans zk12
  refine sw_aload_n (pc' := 21) rfl dX2_begin_20 rfl ?_
  refine sw_iconst (pc' := 22) (v := 0) rfl dX2_begin_21 (by decide +kernel) ?_
  refine sw_putf (ci := 3) (k := 4) (pc' := 25) rfl dX2_begin_22 (by decide +kernel) (by decide +kernel) w_125 rfl zk14 hW.2 (Nat.le_of_ble_eq_true rfl) rfl rfl ?_
  refine sw_nm (fun g17 eg17 => ?_)
  have zk18 := (congrFun eg17 _).trans (up_s (h := g13) (i := w))
  have zk19 := ((congrFun eg17 b).trans (up_n (h := g13) (by omega))).trans zk15
  have zk20 := ((congrFun eg17 (b + 1)).trans (up_n (h := g13) (by omega))).trans zk16
  refine sw_aload_n (pc' := 26) rfl dX2_begin_25 rfl ?_
  refine sw_iconst (pc' := 27) (v := 0) rfl dX2_begin_26 (by decide +kernel) ?_
  refine sw_putf (ci := 3) (k := 5) (pc' := 30) rfl dX2_begin_27 (by decide +kernel) (by decide +kernel) w_127 rfl zk18 hW.2 (Nat.le_of_ble_eq_true rfl) rfl rfl ?_
  refine sw_nm (fun g21 eg21 => ?_)
  have zk22 := (congrFun eg21 _).trans (up_s (h := g17) (i := w))
  have zk23 := ((congrFun eg21 b).trans (up_n (h := g17) (by omega))).trans zk19
  have zk24 := ((congrFun eg21 (b + 1)).trans (up_n (h := g17) (by omega))).trans zk20
  refine sw_aload_n (pc' := 31) rfl dX2_begin_30 rfl ?_
  refine sw_aload_n (pc' := 32) rfl dX2_begin_31 rfl ?_
  refine sw_getf (ci := 2) (k := 3) (pc' := 35) rfl dX2_begin_32 (by decide +kernel) w_86 zk23 rfl ?_
  refine sw_putf (ci := 3) (k := 6) (pc' := 38) rfl dX2_begin_35 (by decide +kernel) (by decide +kernel) w_128 rfl zk22 hW.2 (Nat.le_of_ble_eq_true rfl) rfl rfl ?_
  refine sw_nm (fun g25 eg25 => ?_)
  have zk26 := (congrFun eg25 _).trans (up_s (h := g21) (i := w))
  have zk27 := ((congrFun eg25 b).trans (up_n (h := g21) (by omega))).trans zk23
  have zk28 := ((congrFun eg25 (b + 1)).trans (up_n (h := g21) (by omega))).trans zk24
  refine sw_aload_n (pc' := 39) rfl dX2_begin_38 rfl ?_
  refine sw_aload_n (pc' := 40) rfl dX2_begin_39 rfl ?_
  refine sw_getf (ci := 2) (k := 4) (pc' := 43) rfl dX2_begin_40 (by decide +kernel) w_88 zk27 rfl ?_
  refine sw_putf (ci := 3) (k := 7) (pc' := 46) rfl dX2_begin_43 (by decide +kernel) (by decide +kernel) w_129 rfl zk26 hW.2 (Nat.le_of_ble_eq_true rfl) rfl rfl ?_
  refine sw_nm (fun g29 eg29 => ?_)
  have zk30 := (congrFun eg29 _).trans (up_s (h := g25) (i := w))
  have zk31 := ((congrFun eg29 b).trans (up_n (h := g25) (by omega))).trans zk27
  have zk32 := ((congrFun eg29 (b + 1)).trans (up_n (h := g25) (by omega))).trans zk28
  refine sw_aload_n (pc' := 47) rfl dX2_begin_46 rfl ?_
  refine sw_iconst (pc' := 48) (v := 0) rfl dX2_begin_47 (by decide +kernel) ?_
  refine sw_putf (ci := 3) (k := 8) (pc' := 51) rfl dX2_begin_48 (by decide +kernel) (by decide +kernel) w_130 rfl zk30 hW.2 (Nat.le_of_ble_eq_true rfl) rfl rfl ?_
  refine sw_nm (fun g33 eg33 => ?_)
  have zk34 := (congrFun eg33 _).trans (up_s (h := g29) (i := w))
  have zk35 := ((congrFun eg33 b).trans (up_n (h := g29) (by omega))).trans zk31
  have zk36 := ((congrFun eg33 (b + 1)).trans (up_n (h := g29) (by omega))).trans zk32
  refine sw_ret (v := none) ⟨dX2_begin_51, rfl⟩ ?_
  exact ⟨rfl, rfl, ⟨zk34, hW.2⟩, (fun i h1 => (congrFun eg33 i).trans ((up_n h1).trans ((congrFun eg29 i).trans ((up_n h1).trans ((congrFun eg25 i).trans ((up_n h1).trans ((congrFun eg21 i).trans ((up_n h1).trans ((congrFun eg17 i).trans ((up_n h1).trans ((congrFun eg13 i).trans ((up_n h1).trans ((congrFun eg9 i).trans ((up_n h1).trans ((congrFun eg5 i).trans ((up_n h1).trans ((congrFun eg1 i).trans ((up_n h1).trans (rfl)))))))))))))))))))⟩
theorem l_giveUpTo {h0 : AH} {b kd c d bc bs n w : Nat} {f : Nat → Int32} {s t sh hw tk ss : Int32} {mk : Bool} (hne : b ≠ w ∧ b + 1 ≠ w) (hd : 2 ≤ d) (m : Nat) : ∀ (a : Nat) (h : AH) (gi ts : Int32) (la : Bool), a + m < 100 → WkF h w mk b sh hw gi tk ss ts la → ShF h b kd f c s t → FrW h0 h w → SW SR0 MX2_giveUpTo d bc bs 2 [(2, .int (nI a)), (0, .ref w), (1, .int (nI (a + m)))] [] h n (WkP h0 w (some (.int (nI (a + guN c s tk ss gi m)))) mk b sh hw (gi + nI (guN c s tk ss gi m)) tk ss (if (guN c s tk ss gi m) = 0 then ts else t) (if (guN c s tk ss gi m) = 0 then la else true) n) := by
  induction m with
  | zero =>
    intro a h gi ts la ha hW hS hF
    refine sw_iload_n (pc' := 3) rfl dX2_giveUpTo_2 rfl ?_
    refine sw_iload_n (pc' := 4) rfl dX2_giveUpTo_3 rfl ?_
    refine sw_icmp_ge (pc' := 7) (tgt := 25) rfl dX2_giveUpTo_4 (by decide +kernel) (fun c4 => ?_) (fun c4 => ?_)
    · refine sw_iload_n (pc' := 26) rfl dX2_giveUpTo_25 rfl ?_
      refine sw_ret (v := some _) ⟨dX2_giveUpTo_26, _, rfl, rfl⟩ ?_
      exact ⟨rfl, rfl, ⟨by rw [show gi + nI (guN c s tk ss gi 0) = gi from Int32.add_zero gi]; exact hW.1, hW.2⟩, hF⟩
    · exact absurd (Int32.le_refl _) c4
  | succ m ih =>
    intro a h gi ts la ha hW hS hF
    refine sw_iload_n (pc' := 3) rfl dX2_giveUpTo_2 rfl ?_
    refine sw_iload_n (pc' := 4) rfl dX2_giveUpTo_3 rfl ?_
    refine sw_icmp_ge (pc' := 7) (tgt := 25) rfl dX2_giveUpTo_4 (by decide +kernel) (fun c4 => ?_) (fun c4 => ?_)
    · exact absurd c4 (nI_ge (by omega) (by omega))
    · refine sw_aload_n (pc' := 8) rfl dX2_giveUpTo_7 rfl ?_
      refine sw_V (M' := MX2_hasMore) (d' := d - 1) (bc' := 0) (bs' := 0) (ci := 3) (as := []) dX2_giveUpTo_8 w_225 ok_X2_hasMore (m_hasMore hW hS (by omega)) hW.1 rfl (by omega) (Nat.le_of_ble_eq_true rfl) (Nat.zero_le _) (Nat.zero_le _) (fun E h' n' _ z => det_x z) (det_k ?_)
      refine sw_if_eq (pc' := 14) (tgt := 25) rfl dX2_giveUpTo_11 (by decide +kernel) (fun c11 => ?_) (fun c11 => ?_)
      · refine sw_iload_n (pc' := 26) rfl dX2_giveUpTo_25 rfl ?_
        refine sw_ret (v := some _) ⟨dX2_giveUpTo_26, _, rfl, rfl⟩ ?_
        have e0 : guN c s tk ss gi (m + 1) = 0 := by rw [guN, bI_0 c11]; rfl
        rw [e0, show gi + nI 0 = gi from Int32.add_zero gi]
        exact ⟨rfl, rfl, hW, hF⟩
      · refine sw_aload_n (pc' := 15) rfl dX2_giveUpTo_14 rfl ?_
        refine sw_V (M' := MX2_give) (d' := d - 1) (bc' := 0) (bs' := 0) (ci := 3) (as := []) dX2_giveUpTo_15 w_226 ok_X2_give (m_give hW hS hne (by omega)) hW.1 rfl (by omega) (Nat.le_of_ble_eq_true rfl) (Nat.zero_le _) (Nat.zero_le _) (fun E h' n' _ z => wkp_x z) (wkp_k (fun p1 p1W p1F => ?_))
        refine sw_pop (pc' := 19) rfl dX2_giveUpTo_18 rfl ?_
        refine sw_iinc (pc' := 22) (lv' := [(2, _), (0, _), (1, _)]) (v := nI (a + 1)) rfl dX2_giveUpTo_19 rfl (nI_succ a).symm (by decide +kernel) rfl ?_
        refine sw_goto (tgt := 2) dX2_giveUpTo_22 (by decide +kernel) ?_
        have e1 : guN c s tk ss gi (m + 1) = guN c s tk ss (gi + 1) m + 1 := by rw [guN, bI_1 c11]; rfl
        have k := ih (a + 1) p1 (gi + 1) t true (by omega) p1W (hS.frW p1F hne) (hF.tr p1F)
        rw [nI_add1, show a + 1 + m = a + (m + 1) by omega, show a + 1 + guN c s tk ss (gi + 1) m = a + (guN c s tk ss (gi + 1) m + 1) by omega, ite_self, ite_self] at k
        rw [e1, if_neg (Nat.succ_ne_zero _), if_neg (Nat.succ_ne_zero _)]
        exact k
theorem m_giveUpTo {h : AH} {b kd c d bc bs n w : Nat} {f : Nat → Int32} {s t sh hw gi tk ss ts : Int32} {mk la : Bool} {m : Nat} (hW : WkF h w mk b sh hw gi tk ss ts la) (hS : ShF h b kd f c s t) (hne : b ≠ w ∧ b + 1 ≠ w) (hd : 2 ≤ d) (hm : m < 100) : SM SR0 MX2_giveUpTo d bc bs [.ref w, .int (nI m)] h n (WkP h w (some (.int (nI (guN c s tk ss gi m)))) mk b sh hw (gi + nI (guN c s tk ss gi m)) tk ss (if (guN c s tk ss gi m) = 0 then ts else t) (if (guN c s tk ss gi m) = 0 then la else true) n) := by
  refine sm_of pn_Overwalks_Walk rfl (Nat.le_of_ble_eq_true rfl) ?_
  refine sw_iconst (pc' := 1) (v := 0) rfl dX2_giveUpTo_0 (by decide +kernel) ?_
  refine sw_istore_n (pc' := 2) (lv' := [(2, _), (0, _), (1, _)]) rfl dX2_giveUpTo_1 (by decide +kernel) rfl ?_
  have k := l_giveUpTo (h0 := h) (sh := sh) (hw := hw) (tk := tk) (ss := ss) (mk := mk) (f := f) (kd := kd) (c := c) (s := s) (t := t) (d := d) (bc := bc) (bs := bs) (n := n) hne hd m 0 h gi ts la (by omega) hW hS FrW.rf
  rw [Nat.zero_add, Nat.zero_add] at k
  exact k
theorem m_initWalk {h : AH} {d bc bs n w b : Nat} (hW : h w = .inr (3, dfs 3)) (hw : nC ≤ w) : SM SR0 MX2_init d bc bs [.ref w, .ref b] h n (WkP h w none false b 0 0 0 0 0 0 false n) := by
  refine sm_of pn_Overwalks_Walk rfl (Nat.le_of_ble_eq_true rfl) ?_
  refine sw_aload_n (pc' := 1) rfl dX2_init_0 rfl ?_
  refine sw_objInit (pc' := 4) rfl dX2_init_1 w_116 w_69 w_70 (Nat.le_of_ble_eq_true rfl) ?_
  refine sw_aload_n (pc' := 5) rfl dX2_init_4 rfl ?_
  refine sw_aload_n (pc' := 6) rfl dX2_init_5 rfl ?_
  refine sw_putf (ci := 3) (k := 1) (pc' := 9) rfl dX2_init_6 (by decide +kernel) (by decide +kernel) w_119 rfl hW hw (Nat.le_of_ble_eq_true rfl) rfl rfl ?_
  refine sw_nm (fun g1 eg1 => ?_)
  have zk2 := (congrFun eg1 _).trans (up_s (h := h) (i := w))
  refine sw_ret (v := none) ⟨dX2_init_9, rfl⟩ ?_
  exact ⟨rfl, rfl, ⟨zk2, hw⟩, (fun i h1 => (congrFun eg1 i).trans ((up_n h1).trans (rfl)))⟩
theorem m_initShelf {h : AH} {d bc bs b kd : Nat} (hb : h b = .inr (2, dfs 2)) (hn : nC ≤ b) (h1 : 1 ≤ bc) (h2 : 12 ≤ bs) : SM SR0 MX1_init d bc bs [.ref b, .ref kd] h (b + 1) (ShP h b kd none (fun _ => 0) 0 0 0 (b + 1 + 1)) := by
  refine sm_of pn_Overwalks_Shelf rfl (Nat.le_of_ble_eq_true rfl) ?_
  refine sw_aload_n (pc' := 1) rfl dX1_init_0 rfl ?_
  refine sw_objInit (pc' := 4) rfl dX1_init_1 w_79 w_69 w_70 (Nat.le_of_ble_eq_true rfl) ?_
  refine sw_aload_n (pc' := 5) rfl dX1_init_4 rfl ?_
  refine sw_bipush (pc' := 7) (v := 12) rfl dX1_init_5 (by decide +kernel) ?_
  refine sw_newa (pc' := 9) (t := 0) (len := 12) rfl dX1_init_7 (Or.inl ⟨rfl, rfl⟩) w_101 rfl (by decide +kernel) h1 h2 ?_
  refine sw_nm (fun g0 eg0 => ?_)
  have ka := (congrFun eg0 _).trans (up_s (h := h) (i := b + 1))
  have kb := ((congrFun eg0 b).trans (up_n (h := h) (by omega))).trans hb
  refine sw_putfF (ci := 2) (k := 1) (pc' := 12) rfl dX1_init_9 (by decide +kernel) (by decide +kernel) w_82 rfl rfl rfl kb hn (Nat.le_of_ble_eq_true rfl) rfl rfl ?_
  refine sw_nm (fun g1 eg1 => ?_)
  have zk2 := (congrFun eg1 _).trans (up_s (h := g0) (i := b))
  have zk3 := ((congrFun eg1 (b + 1)).trans (up_n (h := g0) (by omega))).trans ka
  refine sw_aload_n (pc' := 13) rfl dX1_init_12 rfl ?_
  refine sw_aload_n (pc' := 14) rfl dX1_init_13 rfl ?_
  refine sw_putfF (ci := 2) (k := 0) (pc' := 17) rfl dX1_init_14 (by decide +kernel) (by decide +kernel) w_80 rfl rfl rfl zk2 hn (Nat.le_of_ble_eq_true rfl) rfl rfl ?_
  refine sw_nm (fun g4 eg4 => ?_)
  have zk5 := (congrFun eg4 _).trans (up_s (h := g1) (i := b))
  have zk6 := ((congrFun eg4 (b + 1)).trans (up_n (h := g1) (by omega))).trans zk3
  refine sw_ret (v := none) ⟨dX1_init_17, rfl⟩ ?_
  exact ⟨rfl, rfl, ⟨zk5, zk6, Nat.zero_le _, hn⟩, (fun i h1 h2 => (congrFun eg4 i).trans ((up_n h1).trans ((congrFun eg1 i).trans ((up_n h1).trans ((congrFun eg0 i).trans ((up_n h2).trans (rfl)))))))⟩
