/-! Shelf: its methods that write -/
def FrS (h h' : AH) (b : Nat) : Prop := ∀ i, i ≠ b → i ≠ b + 1 → h' i = h i
theorem FrS.rf {h : AH} {b : Nat} : FrS h h b := fun _ _ _ => rfl
theorem FrS.tr {h h1 h2 : AH} {b : Nat} (a : FrS h h1 b) (c : FrS h1 h2 b) : FrS h h2 b := fun i p q => (c i p q).trans (a i p q)
/-- the Shelf at b is otherwise, nothing else is -/
def ShP (h : AH) (b kd : Nat) (r : Option Value) (f : Nat → Int32) (c : Nat) (s t : Int32) (n : Nat) : ARes → AH → Nat → Prop := fun r' h' n' => r' = .inl r ∧ n' = n ∧ ShF h' b kd f c s t ∧ FrS h h' b
theorem shp_k {A : Nat → AH → Option Value → Prop} {h : AH} {b kd c n n0 : Nat} {r : Option Value} {f : Nat → Int32} {s t : Int32} (k : ∀ h', ShF h' b kd f c s t → FrS h h' b → A n h' r) : ∀ (v : Option Value) (h' : AH) (n' : Nat), n0 ≤ n' → ShP h b kd r f c s t n (.inl v) h' n' → A n' h' v := by
  rintro v h' n' - ⟨e, rfl, g1, g2⟩
  cases e
  exact k h' g1 g2
theorem shp_x {A : Prop} {h : AH} {b kd c n : Nat} {r : Option Value} {f : Nat → Int32} {s t : Int32} {E : String} {h' : AH} {n' : Nat} (z : ShP h b kd r f c s t n (.inr E) h' n') : A := by cases z.1
theorem KdF.fr {h h' : AH} {k b : Nat} (hK : KdF h k) (hF : FrS h h' b) (hb : nC ≤ b) : KdF h' k := by
  have hb2 : 100 ≤ b := hb
  have h1 := hK.1
  exact ⟨hK.1, (hF k (by omega) (by omega)).trans hK.2⟩
theorem ShF.fr {h h' : AH} {b b2 kd c : Nat} {f : Nat → Int32} {s t : Int32} (hS : ShF h b2 kd f c s t) (hF : FrS h h' b) (h1 : b + 2 ≤ b2 ∨ b2 + 2 ≤ b) : ShF h' b2 kd f c s t := ⟨(hF _ (by omega) (by omega)).trans hS.1, (hF _ (by omega) (by omega)).trans hS.2.1, hS.2.2⟩
theorem taI_in {f : Nat → Int32} {c j : Nat} (hj : j < c) (hc : c ≤ 12) : taI f c (nI j) = f j := by
  rw [taI, if_pos ⟨nI_pos (by omega), nI_ge hj (by omega)⟩, nI_clamp (by omega)]
/-- the things from place i + 1 to c stand one further -/
def mvN (f : Nat → Int32) (i c : Nat) : Nat → Int32 := fun q => if i < q ∧ q ≤ c then f (q - 1) else f q
def laN (f : Nat → Int32) (j : Nat) (x : Int32) (c : Nat) : Nat → Int32 := up (mvN f j c) j x
theorem mvN_c {f : Nat → Int32} {c : Nat} : mvN f c c = f := by
  funext q
  exact if_neg (by omega)
theorem mvN_s {f : Nat → Int32} {i c : Nat} (h : i + 1 ≤ c) : up (mvN f (i + 1) c) (i + 1) (mvN f (i + 1) c i) = mvN f i c := by
  funext q
  by_cases e : q = i + 1
  · subst e
    rw [up_s]
    unfold mvN
    rw [if_neg (by omega), if_pos (by omega)]
    rfl
  · rw [up_n e]
    unfold mvN
    by_cases g : i < q ∧ q ≤ c
    · rw [if_pos (by omega), if_pos g]
    · rw [if_neg (by omega), if_neg g]
/-- the things of the places j to i - 1 are those one further -/
def liN (f : Nat → Int32) (j i : Nat) : Nat → Int32 := fun q => if j ≤ q ∧ q < i then f (q + 1) else f q
theorem liN_j {f : Nat → Int32} {j : Nat} : liN f j j = f := by
  funext q
  exact if_neg (by omega)
theorem liN_s {f : Nat → Int32} {i j : Nat} (h : j ≤ i) : up (liN f j i) i (liN f j i (i + 1)) = liN f j (i + 1) := by
  funext q
  by_cases e : q = i
  · subst e
    rw [up_s]
    unfold liN
    rw [if_neg (by omega), if_pos (by omega)]
  · rw [up_n e]
    unfold liN
    by_cases g : j ≤ q ∧ q < i
    · rw [if_pos g, if_pos (by omega)]
    · rw [if_neg g, if_neg (by omega)]
def rvN (f : Nat → Int32) (a e : Nat) : Nat → Int32 := fun q => if a ≤ q ∧ q < e then f (a + e - 1 - q) else f q
theorem rvN_1 {f : Nat → Int32} {a e : Nat} (h : e ≤ a + 1) : rvN f a e = f := by
  funext q
  unfold rvN
  by_cases g : a ≤ q ∧ q < e
  · rw [if_pos g]
    congr 1
    omega
  · rw [if_neg g]
theorem rvN_s {f : Nat → Int32} {a m : Nat} : rvN (up (up f (a + m + 1) (f a)) a (f (a + m + 1))) (a + 1) (a + m + 1) = rvN f a (a + m + 2) := by
  funext q
  unfold rvN
  by_cases g : a ≤ q ∧ q < a + m + 2
  · rw [if_pos g]
    by_cases g1 : q = a
    · subst g1
      rw [if_neg (by omega), up_s]
      congr 1
      omega
    · by_cases g2 : q = a + m + 1
      · subst g2
        rw [if_neg (by omega), up_n (by omega), up_s]
        congr 1
        omega
      · rw [if_pos (by omega), up_n (by omega), up_n (by omega)]
        congr 1
        omega
  · rw [if_neg g, if_neg (by omega), up_n (by omega), up_n (by omega)]
def ldY (f : Nat → Int32) (c kd : Nat) (x : Int32) : Bool := !(kE kd && (fpN f x 0 c).isSome)
def ldP (f : Nat → Int32) (c kd : Nat) (x : Int32) : Nat := if kd = 2 then rpN f x 0 c else c
/-- the first i things are those of f2 from place k on -/
def blN (f f2 : Nat → Int32) (k i : Nat) : Nat → Int32 := fun q => if q < i then f2 (k + q) else f q
theorem blN_0 {f f2 : Nat → Int32} {k : Nat} : blN f f2 k 0 = f := by
  funext q
  exact if_neg (by omega)
theorem blN_s {f f2 : Nat → Int32} {k i : Nat} : up (blN f f2 k i) i (f2 (k + i)) = blN f f2 k (i + 1) := by
  funext q
  by_cases e : q = i
  · subst e
    rw [up_s]
    exact (if_pos (by omega)).symm
  · rw [up_n e]
    unfold blN
    by_cases g : q < i
    · rw [if_pos g, if_pos (by omega)]
    · rw [if_neg g, if_neg (by omega)]
theorem blN_self {f : Nat → Int32} {i : Nat} : blN f f 0 i = f := by
  funext q
  unfold blN
  by_cases g : q < i
  · rw [if_pos g, Nat.zero_add]
  · rw [if_neg g]
theorem up_id {α : Type} {f : Nat → α} {i : Nat} : up f i (f i) = f := by
  funext q
  by_cases e : q = i
  · rw [e, up_s]
  · rw [up_n e]
theorem m_exchange {h : AH} {b kd c d bc bs n : Nat} {f : Nat → Int32} {s t x : Int32} {j : Nat} (hS : ShF h b kd f c s t) (hj : j < c) : SM SR0 MX1_exchange d bc bs [.ref b, .int (nI j), .int x] h n (ShP h b kd (some (.int (f j))) (up f j x) c s t n) := by
  have hc := hS.2.2.1
  refine sm_of pn_Overwalks_Shelf rfl (Nat.le_of_ble_eq_true rfl) ?_
  refine sw_iload_n (pc' := 1) rfl dX1_exchange_0 rfl ?_
  refine sw_if_lt (pc' := 4) (tgt := 12) rfl dX1_exchange_1 (by decide +kernel) (fun c1 => ?_) (fun c1 => ?_)
  · exact absurd c1 (nI_pos (by omega))
  · refine sw_iload_n (pc' := 5) rfl dX1_exchange_4 rfl ?_
    refine sw_aload_n (pc' := 6) rfl dX1_exchange_5 rfl ?_
    refine sw_getf (ci := 2) (k := 2) (pc' := 9) rfl dX1_exchange_6 (by decide +kernel) w_83 hS.1 rfl ?_
    refine sw_icmp_lt (pc' := 12) (tgt := 14) rfl dX1_exchange_9 (by decide +kernel) (fun c9 => ?_) (fun c9 => ?_)
    · refine sw_aload_n (pc' := 15) rfl dX1_exchange_14 rfl ?_
      refine sw_getf (ci := 2) (k := 1) (pc' := 18) rfl dX1_exchange_15 (by decide +kernel) w_82 hS.1 rfl ?_
      refine sw_iload_n (pc' := 19) rfl dX1_exchange_18 rfl ?_
      refine sw_iald (pc' := 20) rfl dX1_exchange_19 hS.2.1 rfl (by omega) (by decide +kernel) ?_
      refine sw_istore_n (pc' := 21) (lv' := [(3, _), (0, _), (1, _), (2, _)]) rfl dX1_exchange_20 (by decide +kernel) rfl ?_
      refine sw_aload_n (pc' := 22) rfl dX1_exchange_21 rfl ?_
      refine sw_getf (ci := 2) (k := 1) (pc' := 25) rfl dX1_exchange_22 (by decide +kernel) w_82 hS.1 rfl ?_
      refine sw_iload_n (pc' := 26) rfl dX1_exchange_25 rfl ?_
      refine sw_iload_n (pc' := 27) rfl dX1_exchange_26 rfl ?_
      refine sw_iast (pc' := 28) rfl dX1_exchange_27 hS.2.1 (Nat.le_succ_of_le hS.2.2.2) rfl (by omega) (by decide +kernel) ?_
      refine sw_nm (fun g1 eg1 => ?_)
      have zk2 := (congrFun eg1 _).trans (up_s (h := h) (i := (b + 1)))
      have zk3 := ((congrFun eg1 b).trans (up_n (h := h) (by omega))).trans hS.1
      refine sw_iload_n (pc' := 29) rfl dX1_exchange_28 rfl ?_
      refine sw_ret (v := some _) ⟨dX1_exchange_29, _, rfl, rfl⟩ ?_
      exact ⟨rfl, rfl, ⟨zk3, zk2, hc, hS.2.2.2⟩, (fun i h1 h2 => (congrFun eg1 i).trans ((up_n h2).trans (rfl)))⟩
    · exact absurd (nI_lt hj (by omega)) c9
theorem l_layAhead {b kd c d bc bs n : Nat} {f : Nat → Int32} {s t x : Int32} {h0 : AH} {j : Nat} (hc : c < 12) (m : Nat) : ∀ h, ShF h b kd (mvN f (j + m) c) c s t → FrS h0 h b → j + m ≤ c → SW SR0 MX1_layAhead d bc bs 28 [(3, .int (nI (j + m))), (0, .ref b), (1, .int (nI j)), (2, .int x)] [] h n (ShP h0 b kd (some (.int 1)) (laN f j x c) (c + 1) (s + 1) t n) := by
  induction m with
  | zero =>
    intro h hS hF hj
    refine sw_iload_n (pc' := 29) rfl dX1_layAhead_28 rfl ?_
    refine sw_iload_n (pc' := 30) rfl dX1_layAhead_29 rfl ?_
    refine sw_icmp_le (pc' := 33) (tgt := 53) rfl dX1_layAhead_30 (by decide +kernel) (fun c30 => ?_) (fun c30 => ?_)
    · refine sw_aload_n (pc' := 54) rfl dX1_layAhead_53 rfl ?_
      refine sw_getf (ci := 2) (k := 1) (pc' := 57) rfl dX1_layAhead_54 (by decide +kernel) w_82 hS.1 rfl ?_
      refine sw_iload_n (pc' := 58) rfl dX1_layAhead_57 rfl ?_
      refine sw_iload_n (pc' := 59) rfl dX1_layAhead_58 rfl ?_
      refine sw_iast (pc' := 60) rfl dX1_layAhead_59 hS.2.1 (Nat.le_succ_of_le hS.2.2.2) rfl (by omega) (by decide +kernel) ?_
      refine sw_nm (fun g1 eg1 => ?_)
      have zk2 := (congrFun eg1 _).trans (up_s (h := h) (i := (b + 1)))
      have zk3 := ((congrFun eg1 b).trans (up_n (h := h) (by omega))).trans hS.1
      refine sw_aload_n (pc' := 61) rfl dX1_layAhead_60 rfl ?_
      refine sw_dup (pc' := 62) rfl dX1_layAhead_61 rfl ?_
      refine sw_getf (ci := 2) (k := 2) (pc' := 65) rfl dX1_layAhead_62 (by decide +kernel) w_83 zk3 rfl ?_
      refine sw_iconst (pc' := 66) (v := 1) rfl dX1_layAhead_65 (by decide +kernel) ?_
      refine sw_iadd (pc' := 67) rfl dX1_layAhead_66 ?_
      refine sw_putf (ci := 2) (k := 2) (pc' := 70) rfl dX1_layAhead_67 (by decide +kernel) (by decide +kernel) w_83 rfl zk3 hS.2.2.2 (Nat.le_of_ble_eq_true rfl) rfl rfl ?_
      refine sw_nm (fun g4 eg4 => ?_)
      have zk5 := (congrFun eg4 _).trans (up_s (h := g1) (i := b))
      have zk6 := ((congrFun eg4 (b + 1)).trans (up_n (h := g1) (by omega))).trans zk2
      refine sw_aload_n (pc' := 71) rfl dX1_layAhead_70 rfl ?_
      refine sw_dup (pc' := 72) rfl dX1_layAhead_71 rfl ?_
      refine sw_getf (ci := 2) (k := 3) (pc' := 75) rfl dX1_layAhead_72 (by decide +kernel) w_87 zk5 rfl ?_
      refine sw_iconst (pc' := 76) (v := 1) rfl dX1_layAhead_75 (by decide +kernel) ?_
      refine sw_iadd (pc' := 77) rfl dX1_layAhead_76 ?_
      refine sw_putf (ci := 2) (k := 3) (pc' := 80) rfl dX1_layAhead_77 (by decide +kernel) (by decide +kernel) w_87 rfl zk5 hS.2.2.2 (Nat.le_of_ble_eq_true rfl) rfl rfl ?_
      refine sw_nm (fun g7 eg7 => ?_)
      have zk8 := (congrFun eg7 _).trans (up_s (h := g4) (i := b))
      have zk9 := ((congrFun eg7 (b + 1)).trans (up_n (h := g4) (by omega))).trans zk6
      refine sw_iconst (pc' := 81) (v := 1) rfl dX1_layAhead_80 (by decide +kernel) ?_
      refine sw_ret (v := some _) ⟨dX1_layAhead_81, _, rfl, rfl⟩ ?_
      exact ⟨rfl, rfl, ⟨by rw [nI_succ]; exact zk8, zk9, hc, hS.2.2.2⟩, (fun i h1 h2 => (congrFun eg7 i).trans ((up_n h1).trans ((congrFun eg4 i).trans ((up_n h1).trans ((congrFun eg1 i).trans ((up_n h2).trans (hF i h1 h2)))))))⟩
    · exact absurd (Int32.le_refl _) c30
  | succ m ih =>
    intro h hS hF hj
    refine sw_iload_n (pc' := 29) rfl dX1_layAhead_28 rfl ?_
    refine sw_iload_n (pc' := 30) rfl dX1_layAhead_29 rfl ?_
    refine sw_icmp_le (pc' := 33) (tgt := 53) rfl dX1_layAhead_30 (by decide +kernel) (fun c30 => ?_) (fun c30 => ?_)
    · exact absurd c30 (nI_ge (by omega) (by omega))
    · refine sw_aload_n (pc' := 34) rfl dX1_layAhead_33 rfl ?_
      refine sw_getf (ci := 2) (k := 1) (pc' := 37) rfl dX1_layAhead_34 (by decide +kernel) w_82 hS.1 rfl ?_
      refine sw_iload_n (pc' := 38) rfl dX1_layAhead_37 rfl ?_
      refine sw_aload_n (pc' := 39) rfl dX1_layAhead_38 rfl ?_
      refine sw_getf (ci := 2) (k := 1) (pc' := 42) rfl dX1_layAhead_39 (by decide +kernel) w_82 hS.1 rfl ?_
      refine sw_iload_n (pc' := 43) rfl dX1_layAhead_42 rfl ?_
      refine sw_iconst (pc' := 44) (v := 1) rfl dX1_layAhead_43 (by decide +kernel) ?_
      refine sw_isub (pc' := 45) rfl dX1_layAhead_44 ?_
      refine sw_iald (pc' := 46) rfl dX1_layAhead_45 hS.2.1 (nI_pred (j + m)) (by omega) (by decide +kernel) ?_
      refine sw_iast (pc' := 47) rfl dX1_layAhead_46 hS.2.1 (Nat.le_succ_of_le hS.2.2.2) rfl (by omega) (by decide +kernel) ?_
      refine sw_nm (fun g10 eg10 => ?_)
      have zk11 := (congrFun eg10 _).trans (up_s (h := h) (i := (b + 1)))
      have zk12 := ((congrFun eg10 b).trans (up_n (h := h) (by omega))).trans hS.1
      refine sw_iinc (pc' := 50) (lv' := [(3, _), (0, _), (1, _), (2, _)]) (v := nI (j + m)) rfl dX1_layAhead_47 rfl ((i_m1 _).trans (nI_pred (j + m))) (by decide +kernel) rfl ?_
      refine sw_goto (tgt := 28) dX1_layAhead_50 (by decide +kernel) ?_
      exact ih g10 ⟨zk12, (show up (mvN f (j + m + 1) c) (j + m + 1) (mvN f (j + m + 1) c (j + m)) = mvN f (j + m) c from mvN_s hj) ▸ zk11, hS.2.2⟩ (fun i h1 h2 => (congrFun eg10 i).trans ((up_n h2).trans (hF i h1 h2))) (by omega)
theorem m_layAhead {h : AH} {b kd c d bc bs n : Nat} {f : Nat → Int32} {s t x : Int32} {j : Nat} (hS : ShF h b kd f c s t) (hj : j ≤ c) (hc : c < 12) : SM SR0 MX1_layAhead d bc bs [.ref b, .int (nI j), .int x] h n (ShP h b kd (some (.int 1)) (laN f j x c) (c + 1) (s + 1) t n) := by
  refine sm_of pn_Overwalks_Shelf rfl (Nat.le_of_ble_eq_true rfl) ?_
  refine sw_iload_n (pc' := 1) rfl dX1_layAhead_0 rfl ?_
  refine sw_if_lt (pc' := 4) (tgt := 21) rfl dX1_layAhead_1 (by decide +kernel) (fun c1 => ?_) (fun c1 => ?_)
  · exact absurd c1 (nI_pos (by omega))
  · refine sw_iload_n (pc' := 5) rfl dX1_layAhead_4 rfl ?_
    refine sw_aload_n (pc' := 6) rfl dX1_layAhead_5 rfl ?_
    refine sw_getf (ci := 2) (k := 2) (pc' := 9) rfl dX1_layAhead_6 (by decide +kernel) w_83 hS.1 rfl ?_
    refine sw_icmp_gt (pc' := 12) (tgt := 21) rfl dX1_layAhead_9 (by decide +kernel) (fun c9 => ?_) (fun c9 => ?_)
    · exact absurd c9 (nI_nlt hj (by omega))
    · refine sw_aload_n (pc' := 13) rfl dX1_layAhead_12 rfl ?_
      refine sw_getf (ci := 2) (k := 2) (pc' := 16) rfl dX1_layAhead_13 (by decide +kernel) w_83 hS.1 rfl ?_
      refine sw_bipush (pc' := 18) (v := 12) rfl dX1_layAhead_16 (by decide +kernel) ?_
      refine sw_icmp_lt (pc' := 21) (tgt := 23) rfl dX1_layAhead_18 (by decide +kernel) (fun c18 => ?_) (fun c18 => ?_)
      · refine sw_aload_n (pc' := 24) rfl dX1_layAhead_23 rfl ?_
        refine sw_getf (ci := 2) (k := 2) (pc' := 27) rfl dX1_layAhead_24 (by decide +kernel) w_83 hS.1 rfl ?_
        refine sw_istore_n (pc' := 28) (lv' := [(3, _), (0, _), (1, _), (2, _)]) rfl dX1_layAhead_27 (by decide +kernel) rfl ?_
        have k := l_layAhead (h0 := h) (f := f) (b := b) (kd := kd) (s := s) (t := t) (j := j) (d := d) (bc := bc) (bs := bs) (n := n) (x := x) hc (c - j) h
        rw [show j + (c - j) = c by omega, mvN_c] at k
        exact k hS FrS.rf (Nat.le_refl _)
      · exact absurd (nI_lt (b := 12) hc (by decide +kernel)) c18
theorem l_lift {b kd c d bc bs n : Nat} {f : Nat → Int32} {s t : Int32} {h0 : AH} {j : Nat} {v : Int32} (hc : c < 12) (m : Nat) : ∀ i (h : AH), i + m = c → j ≤ i → ShF h b kd (liN f j i) c s t → FrS h0 h b → SW SR0 MX1_lift d bc bs 33 [(3, .int (nI i)), (2, .int v), (0, .ref b), (1, .int (nI j))] [] h n (ShP h0 b kd (some (.int v)) (liN f j c) c (s + 1) t n) := by
  induction m with
  | zero =>
    intro i h hi hj hS hF
    have hic : i = c := by omega
    subst hic
    refine sw_iload_n (pc' := 34) rfl dX1_lift_33 rfl ?_
    refine sw_aload_n (pc' := 35) rfl dX1_lift_34 rfl ?_
    refine sw_getf (ci := 2) (k := 2) (pc' := 38) rfl dX1_lift_35 (by decide +kernel) w_83 hS.1 rfl ?_
    refine sw_icmp_ge (pc' := 41) (tgt := 61) rfl dX1_lift_38 (by decide +kernel) (fun c38 => ?_) (fun c38 => ?_)
    · refine sw_aload_n (pc' := 62) rfl dX1_lift_61 rfl ?_
      refine sw_dup (pc' := 63) rfl dX1_lift_62 rfl ?_
      refine sw_getf (ci := 2) (k := 3) (pc' := 66) rfl dX1_lift_63 (by decide +kernel) w_87 hS.1 rfl ?_
      refine sw_iconst (pc' := 67) (v := 1) rfl dX1_lift_66 (by decide +kernel) ?_
      refine sw_iadd (pc' := 68) rfl dX1_lift_67 ?_
      refine sw_putf (ci := 2) (k := 3) (pc' := 71) rfl dX1_lift_68 (by decide +kernel) (by decide +kernel) w_87 rfl hS.1 hS.2.2.2 (Nat.le_of_ble_eq_true rfl) rfl rfl ?_
      refine sw_nm (fun g1 eg1 => ?_)
      have zk2 := (congrFun eg1 _).trans (up_s (h := h) (i := b))
      have zk3 := ((congrFun eg1 (b + 1)).trans (up_n (h := h) (by omega))).trans hS.2.1
      refine sw_iload_n (pc' := 72) rfl dX1_lift_71 rfl ?_
      refine sw_ret (v := some _) ⟨dX1_lift_72, _, rfl, rfl⟩ ?_
      exact ⟨rfl, rfl, ⟨zk2, zk3, hS.2.2⟩, (fun i h1 h2 => (congrFun eg1 i).trans ((up_n h1).trans (hF i h1 h2)))⟩
    · exact absurd (Int32.le_refl _) c38
  | succ m ih =>
    intro i h hi hj hS hF
    refine sw_iload_n (pc' := 34) rfl dX1_lift_33 rfl ?_
    refine sw_aload_n (pc' := 35) rfl dX1_lift_34 rfl ?_
    refine sw_getf (ci := 2) (k := 2) (pc' := 38) rfl dX1_lift_35 (by decide +kernel) w_83 hS.1 rfl ?_
    refine sw_icmp_ge (pc' := 41) (tgt := 61) rfl dX1_lift_38 (by decide +kernel) (fun c38 => ?_) (fun c38 => ?_)
    · exact absurd c38 (nI_ge (by omega) (by omega))
    · refine sw_aload_n (pc' := 42) rfl dX1_lift_41 rfl ?_
      refine sw_getf (ci := 2) (k := 1) (pc' := 45) rfl dX1_lift_42 (by decide +kernel) w_82 hS.1 rfl ?_
      refine sw_iload_n (pc' := 46) rfl dX1_lift_45 rfl ?_
      refine sw_aload_n (pc' := 47) rfl dX1_lift_46 rfl ?_
      refine sw_getf (ci := 2) (k := 1) (pc' := 50) rfl dX1_lift_47 (by decide +kernel) w_82 hS.1 rfl ?_
      refine sw_iload_n (pc' := 51) rfl dX1_lift_50 rfl ?_
      refine sw_iconst (pc' := 52) (v := 1) rfl dX1_lift_51 (by decide +kernel) ?_
      refine sw_iadd (pc' := 53) rfl dX1_lift_52 ?_
      refine sw_iald (pc' := 54) rfl dX1_lift_53 hS.2.1 (nI_1 i) (by omega) (by decide +kernel) ?_
      refine sw_iast (pc' := 55) rfl dX1_lift_54 hS.2.1 (Nat.le_succ_of_le hS.2.2.2) rfl (by omega) (by decide +kernel) ?_
      refine sw_nm (fun g4 eg4 => ?_)
      have zk5 := (congrFun eg4 _).trans (up_s (h := h) (i := (b + 1)))
      have zk6 := ((congrFun eg4 b).trans (up_n (h := h) (by omega))).trans hS.1
      refine sw_iinc (pc' := 58) (lv' := [(3, _), (2, _), (0, _), (1, _)]) (v := nI (i + 1)) rfl dX1_lift_55 rfl (nI_succ i).symm (by decide +kernel) rfl ?_
      refine sw_goto (tgt := 33) dX1_lift_58 (by decide +kernel) ?_
      exact ih (i + 1) g4 (by omega) (by omega) ⟨zk6, (liN_s hj) ▸ zk5, hS.2.2⟩ (fun i h1 h2 => (congrFun eg4 i).trans ((up_n h2).trans (hF i h1 h2)))
theorem m_lift {h : AH} {b kd c d bc bs n : Nat} {f : Nat → Int32} {s t : Int32} {j : Nat} (hS : ShF h b kd f (c + 1) s t) (hj : j ≤ c) : SM SR0 MX1_lift d bc bs [.ref b, .int (nI j)] h n (ShP h b kd (some (.int (f j))) (liN f j c) c (s + 1) t n) := by
  have hc := hS.2.2.1
  refine sm_of pn_Overwalks_Shelf rfl (Nat.le_of_ble_eq_true rfl) ?_
  refine sw_iload_n (pc' := 1) rfl dX1_lift_0 rfl ?_
  refine sw_if_lt (pc' := 4) (tgt := 12) rfl dX1_lift_1 (by decide +kernel) (fun c1 => ?_) (fun c1 => ?_)
  · exact absurd c1 (nI_pos (by omega))
  · refine sw_iload_n (pc' := 5) rfl dX1_lift_4 rfl ?_
    refine sw_aload_n (pc' := 6) rfl dX1_lift_5 rfl ?_
    refine sw_getf (ci := 2) (k := 2) (pc' := 9) rfl dX1_lift_6 (by decide +kernel) w_83 hS.1 rfl ?_
    refine sw_icmp_lt (pc' := 12) (tgt := 14) rfl dX1_lift_9 (by decide +kernel) (fun c9 => ?_) (fun c9 => ?_)
    · refine sw_aload_n (pc' := 15) rfl dX1_lift_14 rfl ?_
      refine sw_getf (ci := 2) (k := 1) (pc' := 18) rfl dX1_lift_15 (by decide +kernel) w_82 hS.1 rfl ?_
      refine sw_iload_n (pc' := 19) rfl dX1_lift_18 rfl ?_
      refine sw_iald (pc' := 20) rfl dX1_lift_19 hS.2.1 rfl (by omega) (by decide +kernel) ?_
      refine sw_istore_n (pc' := 21) (lv' := [(2, _), (0, _), (1, _)]) rfl dX1_lift_20 (by decide +kernel) rfl ?_
      refine sw_aload_n (pc' := 22) rfl dX1_lift_21 rfl ?_
      refine sw_dup (pc' := 23) rfl dX1_lift_22 rfl ?_
      refine sw_getf (ci := 2) (k := 2) (pc' := 26) rfl dX1_lift_23 (by decide +kernel) w_83 hS.1 rfl ?_
      refine sw_iconst (pc' := 27) (v := 1) rfl dX1_lift_26 (by decide +kernel) ?_
      refine sw_isub (pc' := 28) rfl dX1_lift_27 ?_
      refine sw_putf (ci := 2) (k := 2) (pc' := 31) rfl dX1_lift_28 (by decide +kernel) (by decide +kernel) w_83 rfl hS.1 hS.2.2.2 (Nat.le_of_ble_eq_true rfl) rfl rfl ?_
      refine sw_nm (fun g7 eg7 => ?_)
      have zk8 := (congrFun eg7 _).trans (up_s (h := h) (i := b))
      have zk9 := ((congrFun eg7 (b + 1)).trans (up_n (h := h) (by omega))).trans hS.2.1
      refine sw_iload_n (pc' := 32) rfl dX1_lift_31 rfl ?_
      refine sw_istore_n (pc' := 33) (lv' := [(3, _), (2, _), (0, _), (1, _)]) rfl dX1_lift_32 (by decide +kernel) rfl ?_
      exact l_lift (h0 := h) (by omega) (c - j) j g7 (by omega) (Nat.le_refl _) ⟨by rw [← nI_pred c]; exact zk8, by rw [liN_j]; exact zk9, by omega, hS.2.2.2⟩ (fun i h1 h2 => (congrFun eg7 i).trans ((up_n h1).trans (rfl)))
    · exact absurd (nI_lt (by omega) (by omega)) c9
theorem m_liftAll {h : AH} {b kd c d bc bs n : Nat} {f : Nat → Int32} {s t : Int32} (hS : ShF h b kd f c s t) : SM SR0 MX1_liftAll d bc bs [.ref b] h n (ShP h b kd none f 0 (if c = 0 then s else s + 1) t n) := by
  have hc := hS.2.2.1
  refine sm_of pn_Overwalks_Shelf rfl (Nat.le_of_ble_eq_true rfl) ?_
  refine sw_aload_n (pc' := 1) rfl dX1_liftAll_0 rfl ?_
  refine sw_getf (ci := 2) (k := 2) (pc' := 4) rfl dX1_liftAll_1 (by decide +kernel) w_83 hS.1 rfl ?_
  refine sw_if_le (pc' := 7) (tgt := 22) rfl dX1_liftAll_4 (by decide +kernel) (fun c4 => ?_) (fun c4 => ?_)
  · refine sw_ret (v := none) ⟨dX1_liftAll_22, rfl⟩ ?_
    have hc0 : c = 0 := by
      apply Nat.eq_zero_of_not_pos
      exact fun q => nI_nle q (by omega) c4
    subst hc0
    exact ⟨rfl, rfl, hS, FrS.rf⟩
  · refine sw_aload_n (pc' := 8) rfl dX1_liftAll_7 rfl ?_
    refine sw_iconst (pc' := 9) (v := 0) rfl dX1_liftAll_8 (by decide +kernel) ?_
    refine sw_putf (ci := 2) (k := 2) (pc' := 12) rfl dX1_liftAll_9 (by decide +kernel) (by decide +kernel) w_83 rfl hS.1 hS.2.2.2 (Nat.le_of_ble_eq_true rfl) rfl rfl ?_
    refine sw_nm (fun g1 eg1 => ?_)
    have zk2 := (congrFun eg1 _).trans (up_s (h := h) (i := b))
    have zk3 := ((congrFun eg1 (b + 1)).trans (up_n (h := h) (by omega))).trans hS.2.1
    refine sw_aload_n (pc' := 13) rfl dX1_liftAll_12 rfl ?_
    refine sw_dup (pc' := 14) rfl dX1_liftAll_13 rfl ?_
    refine sw_getf (ci := 2) (k := 3) (pc' := 17) rfl dX1_liftAll_14 (by decide +kernel) w_87 zk2 rfl ?_
    refine sw_iconst (pc' := 18) (v := 1) rfl dX1_liftAll_17 (by decide +kernel) ?_
    refine sw_iadd (pc' := 19) rfl dX1_liftAll_18 ?_
    refine sw_putf (ci := 2) (k := 3) (pc' := 22) rfl dX1_liftAll_19 (by decide +kernel) (by decide +kernel) w_87 rfl zk2 hS.2.2.2 (Nat.le_of_ble_eq_true rfl) rfl rfl ?_
    refine sw_nm (fun g4 eg4 => ?_)
    have zk5 := (congrFun eg4 _).trans (up_s (h := g1) (i := b))
    have zk6 := ((congrFun eg4 (b + 1)).trans (up_n (h := g1) (by omega))).trans zk3
    refine sw_ret (v := none) ⟨dX1_liftAll_22, rfl⟩ ?_
    exact ⟨rfl, rfl, ⟨by rw [if_neg (fun e => c4 (by rw [e]; decide))]; exact zk5, zk6, Nat.zero_le _, hS.2.2.2⟩, (fun i h1 h2 => (congrFun eg4 i).trans ((up_n h1).trans ((congrFun eg1 i).trans ((up_n h1).trans (rfl)))))⟩
theorem l_reverse {b kd c d bc bs n : Nat} {s t : Int32} {h0 : AH} {y z : Int32} (hd : 1 ≤ d) (m : Nat) : ∀ (a : Nat) (h : AH) (f : Nat → Int32), a + m ≤ c → ShF h b kd f c s t → FrS h0 h b → SW SR0 MX1_reverse d bc bs 7 [(4, .int (nI (a + m) - 1)), (3, .int (nI a)), (0, .ref b), (1, .int y), (2, .int z)] [] h n (ShP h0 b kd none (rvN f a (a + m)) c s t n) := by
  induction m using Nat.strongRecOn with
  | _ m ih =>
    intro a h f hm hS hF
    have hc := hS.2.2.1
    match m, ih, hm with
    | 0, ih, hm =>
      rw [rvN_1 (by omega)]
      refine sw_iload_n (pc' := 8) rfl dX1_reverse_7 rfl ?_
      refine sw_iload (pc' := 10) rfl dX1_reverse_8 rfl ?_
      refine sw_icmp_ge (pc' := 13) (tgt := 39) rfl dX1_reverse_10 (by decide +kernel) (fun c10 => ?_) (fun c10 => ?_)
      · refine sw_ret (v := none) ⟨dX1_reverse_39, rfl⟩ ?_
        exact ⟨rfl, rfl, hS, hF⟩
      · exact absurd (show nI (a + 0) - 1 ≤ nI a from by cases a with | zero => decide | succ a => (rw [show a + 1 + 0 = a + 1 from rfl, nI_pred]; exact nI_le (by omega) (by omega))) c10
    | 1, ih, hm =>
      rw [rvN_1 (by omega)]
      refine sw_iload_n (pc' := 8) rfl dX1_reverse_7 rfl ?_
      refine sw_iload (pc' := 10) rfl dX1_reverse_8 rfl ?_
      refine sw_icmp_ge (pc' := 13) (tgt := 39) rfl dX1_reverse_10 (by decide +kernel) (fun c10 => ?_) (fun c10 => ?_)
      · refine sw_ret (v := none) ⟨dX1_reverse_39, rfl⟩ ?_
        exact ⟨rfl, rfl, hS, hF⟩
      · exact absurd (show nI (a + 1) - 1 ≤ nI a from by rw [nI_pred]; exact Int32.le_refl _) c10
    | m + 2, ih, hm =>
      rw [show nI (a + (m + 2)) - 1 = nI (a + m + 1) from nI_pred (a + m + 1)]
      refine sw_iload_n (pc' := 8) rfl dX1_reverse_7 rfl ?_
      refine sw_iload (pc' := 10) rfl dX1_reverse_8 rfl ?_
      refine sw_icmp_ge (pc' := 13) (tgt := 39) rfl dX1_reverse_10 (by decide +kernel) (fun c10 => ?_) (fun c10 => ?_)
      · exact absurd c10 (nI_ge (by omega) (by omega))
      · refine sw_aload_n (pc' := 14) rfl dX1_reverse_13 rfl ?_
        refine sw_iload_n (pc' := 15) rfl dX1_reverse_14 rfl ?_
        refine sw_aload_n (pc' := 16) rfl dX1_reverse_15 rfl ?_
        refine sw_iload (pc' := 18) rfl dX1_reverse_16 rfl ?_
        refine sw_aload_n (pc' := 19) rfl dX1_reverse_18 rfl ?_
        refine sw_iload_n (pc' := 20) rfl dX1_reverse_19 rfl ?_
        refine sw_V (M' := MX1_thingAt) (d' := d - 1) (bc' := 0) (bs' := 0) (ci := 2) (as := [_]) dX1_reverse_20 w_220 ok_X1_thingAt (m_thingAt hS) hS.1 rfl (by omega) (Nat.le_of_ble_eq_true rfl) (Nat.zero_le _) (Nat.zero_le _) (fun E h' n' _ z => det_x z) (det_k ?_)
        refine sw_V (M' := MX1_exchange) (d' := d - 1) (bc' := 0) (bs' := 0) (ci := 2) (as := [_, _]) dX1_reverse_23 w_575 ok_X1_exchange (m_exchange (j := a + m + 1) hS (by omega)) hS.1 rfl (by omega) (Nat.le_of_ble_eq_true rfl) (Nat.zero_le _) (Nat.zero_le _) (fun E h' n' _ z => shp_x z) (shp_k (fun p1 p1S p1F => ?_))
        refine sw_V (M' := MX1_exchange) (d' := d - 1) (bc' := 0) (bs' := 0) (ci := 2) (as := [_, _]) dX1_reverse_26 w_575 ok_X1_exchange (m_exchange (j := a) p1S (by omega)) p1S.1 rfl (by omega) (Nat.le_of_ble_eq_true rfl) (Nat.zero_le _) (Nat.zero_le _) (fun E h' n' _ z => shp_x z) (shp_k (fun p2 p2S p2F => ?_))
        refine sw_pop (pc' := 30) rfl dX1_reverse_29 rfl ?_
        refine sw_iinc (pc' := 33) (lv' := [(3, _), (4, _), (0, _), (1, _), (2, _)]) (v := nI (a + 1)) rfl dX1_reverse_30 rfl (nI_succ a).symm (by decide +kernel) rfl ?_
        refine sw_iinc (pc' := 36) (lv' := [(4, _), (3, _), (0, _), (1, _), (2, _)]) (v := nI (a + m + 1) - 1) rfl dX1_reverse_33 rfl (i_m1 _) (by decide +kernel) rfl ?_
        refine sw_goto (tgt := 7) dX1_reverse_36 (by decide +kernel) ?_
        have e1 := taI_in (f := f) (c := c) (j := a) (by omega) hc
        rw [e1] at p2S
        have k := ih m (by omega) (a + 1) p2 _ (by omega) p2S ((hF.tr p1F).tr p2F)
        rw [show a + 1 + m = a + m + 1 by omega, rvN_s] at k
        exact k
theorem m_reverse {h : AH} {b kd c d bc bs n : Nat} {f : Nat → Int32} {s t : Int32} {a m : Nat} {xa xe : Int32} (hS : ShF h b kd f c s t) (hd : 1 ≤ d) (hm : a + m ≤ c) (ea : xa = nI a) (ee : xe = nI (a + m)) : SM SR0 MX1_reverse d bc bs [.ref b, .int xa, .int xe] h n (ShP h b kd none (rvN f a (a + m)) c s t n) := by
  subst ea ee
  refine sm_of pn_Overwalks_Shelf rfl (Nat.le_of_ble_eq_true rfl) ?_
  refine sw_iload_n (pc' := 1) rfl dX1_reverse_0 rfl ?_
  refine sw_istore_n (pc' := 2) (lv' := [(3, _), (0, _), (1, _), (2, _)]) rfl dX1_reverse_1 (by decide +kernel) rfl ?_
  refine sw_iload_n (pc' := 3) rfl dX1_reverse_2 rfl ?_
  refine sw_iconst (pc' := 4) (v := 1) rfl dX1_reverse_3 (by decide +kernel) ?_
  refine sw_isub (pc' := 5) rfl dX1_reverse_4 ?_
  refine sw_istore (pc' := 7) (lv' := [(4, _), (3, _), (0, _), (1, _), (2, _)]) rfl dX1_reverse_5 (by decide +kernel) rfl ?_
  exact l_reverse hd m a h f hm hS FrS.rf
theorem m_moveOn {h : AH} {b kd c d bc bs n : Nat} {f : Nat → Int32} {s t : Int32} {y : Nat} (hS : ShF h b kd f c s t) (hd : 2 ≤ d) (hy : y ≤ c) : SM SR0 MX1_moveOn d bc bs [.ref b, .int (nI y)] h n (ShP h b kd none (rvN (rvN (rvN f 0 (0 + c)) 0 (0 + y)) y (y + (c - y))) c s t n) := by
  refine sm_of pn_Overwalks_Shelf rfl (Nat.le_of_ble_eq_true rfl) ?_
  refine sw_aload_n (pc' := 1) rfl dX1_moveOn_0 rfl ?_
  refine sw_iconst (pc' := 2) (v := 0) rfl dX1_moveOn_1 (by decide +kernel) ?_
  refine sw_aload_n (pc' := 3) rfl dX1_moveOn_2 rfl ?_
  refine sw_getf (ci := 2) (k := 2) (pc' := 6) rfl dX1_moveOn_3 (by decide +kernel) w_83 hS.1 rfl ?_
  refine sw_V (M' := MX1_reverse) (d' := d - 1) (bc' := 0) (bs' := 0) (ci := 2) (as := [_, _]) dX1_moveOn_6 w_591 ok_X1_reverse (m_reverse (a := 0) (m := c) hS (by omega) (by omega) rfl (by rw [Nat.zero_add])) hS.1 rfl (by omega) (Nat.le_of_ble_eq_true rfl) (Nat.zero_le _) (Nat.zero_le _) (fun E h' n' _ z => shp_x z) (shp_k (fun p1 p1S p1F => ?_))
  refine sw_aload_n (pc' := 10) rfl dX1_moveOn_9 rfl ?_
  refine sw_iconst (pc' := 11) (v := 0) rfl dX1_moveOn_10 (by decide +kernel) ?_
  refine sw_iload_n (pc' := 12) rfl dX1_moveOn_11 rfl ?_
  refine sw_V (M' := MX1_reverse) (d' := d - 1) (bc' := 0) (bs' := 0) (ci := 2) (as := [_, _]) dX1_moveOn_12 w_591 ok_X1_reverse (m_reverse (a := 0) (m := y) p1S (by omega) (by omega) rfl (by rw [Nat.zero_add])) p1S.1 rfl (by omega) (Nat.le_of_ble_eq_true rfl) (Nat.zero_le _) (Nat.zero_le _) (fun E h' n' _ z => shp_x z) (shp_k (fun p2 p2S p2F => ?_))
  refine sw_aload_n (pc' := 16) rfl dX1_moveOn_15 rfl ?_
  refine sw_iload_n (pc' := 17) rfl dX1_moveOn_16 rfl ?_
  refine sw_aload_n (pc' := 18) rfl dX1_moveOn_17 rfl ?_
  refine sw_getf (ci := 2) (k := 2) (pc' := 21) rfl dX1_moveOn_18 (by decide +kernel) w_83 p2S.1 rfl ?_
  refine sw_V (M' := MX1_reverse) (d' := d - 1) (bc' := 0) (bs' := 0) (ci := 2) (as := [_, _]) dX1_moveOn_21 w_591 ok_X1_reverse (m_reverse (a := y) (m := c - y) p2S (by omega) (by omega) rfl (by rw [Nat.add_sub_cancel' hy])) p2S.1 rfl (by omega) (Nat.le_of_ble_eq_true rfl) (Nat.zero_le _) (Nat.zero_le _) (fun E h' n' _ z => shp_x z) (shp_k (fun p3 p3S p3F => ?_))
  refine sw_ret (v := none) ⟨dX1_moveOn_24, rfl⟩ ?_
  exact ⟨rfl, rfl, p3S, (p1F.tr p2F).tr p3F⟩
theorem m_layDown {h : AH} {b kd c d bc bs n : Nat} {f : Nat → Int32} {s t x : Int32} (hS : ShF h b kd f c s t) (hK : KdF h kd) (hc : c < 12) (hd : 2 ≤ d) : SM SR0 MX1_layDown d bc bs [.ref b, .int x] h n (ShP h b kd (some (.int (bI (ldY f c kd x)))) (if ldY f c kd x then laN f (ldP f c kd x) x c else f) (if ldY f c kd x then c + 1 else c) (if ldY f c kd x then s + 1 else s) t n) := by
  refine sm_of pn_Overwalks_Shelf rfl (Nat.le_of_ble_eq_true rfl) ?_
  refine sw_aload_n (pc' := 1) rfl dX1_layDown_0 rfl ?_
  refine sw_getf (ci := 2) (k := 0) (pc' := 4) rfl dX1_layDown_1 (by decide +kernel) w_80 hS.1 rfl ?_
  refine sw_getf (ci := 7) (k := 2) (pc' := 7) rfl dX1_layDown_4 (by decide +kernel) w_1504 hK.2 rfl ?_
  refine sw_if_eq (pc' := 10) (tgt := 20) rfl dX1_layDown_7 (by decide +kernel) (fun c7 => ?_) (fun c7 => ?_)
  · refine sw_aload_n (pc' := 21) rfl dX1_layDown_20 rfl ?_
    refine sw_aload_n (pc' := 22) rfl dX1_layDown_21 rfl ?_
    refine sw_getf (ci := 2) (k := 0) (pc' := 25) rfl dX1_layDown_22 (by decide +kernel) w_80 hS.1 rfl ?_
    refine sw_gets (pc' := 28) rfl dX1_layDown_25 (v := .ref 2) (by decide +kernel) w_451 ?_
    refine sw_acmp (pc' := 31) (tgt := 39) rfl dX1_layDown_28 (by decide +kernel) hK.1 (by decide +kernel) (fun c28 => ?_) (fun c28 => ?_)
    · refine sw_aload_n (pc' := 40) rfl dX1_layDown_39 rfl ?_
      refine sw_getf (ci := 2) (k := 2) (pc' := 43) rfl dX1_layDown_40 (by decide +kernel) w_83 hS.1 rfl ?_
      refine sw_iload_n (pc' := 44) rfl dX1_layDown_43 rfl ?_
      refine sw_V (M' := MX1_layAhead) (d' := d - 1) (bc' := 0) (bs' := 0) (ci := 2) (as := [_, _]) dX1_layDown_44 w_456 ok_X1_layAhead (m_layAhead (j := c) hS (Nat.le_refl _) hc) hS.1 rfl (by omega) (Nat.le_of_ble_eq_true rfl) (Nat.zero_le _) (Nat.zero_le _) (fun E h' n' _ z => shp_x z) (shp_k (fun p1 p1S p1F => ?_))
      refine sw_ret (v := some _) ⟨dX1_layDown_47, _, rfl, rfl⟩ ?_
      have e1 : ldY f c kd x = true := by unfold ldY; rw [bI_0 c7]; rfl
      have e2 : ldP f c kd x = _ := if_neg c28
      rw [e1, e2]
      exact ⟨rfl, rfl, p1S, p1F⟩
    · refine sw_aload_n (pc' := 32) rfl dX1_layDown_31 rfl ?_
      refine sw_iload_n (pc' := 33) rfl dX1_layDown_32 rfl ?_
      refine sw_V (M' := MX1_risingPlace) (d' := d - 1) (bc' := 0) (bs' := 0) (ci := 2) (as := [_]) dX1_layDown_33 w_452 ok_X1_risingPlace (m_risingPlace hS) hS.1 rfl (by omega) (Nat.le_of_ble_eq_true rfl) (Nat.zero_le _) (Nat.zero_le _) (fun E h' n' _ z => det_x z) (det_k ?_)
      refine sw_goto (tgt := 43) dX1_layDown_36 (by decide +kernel) ?_
      refine sw_iload_n (pc' := 44) rfl dX1_layDown_43 rfl ?_
      refine sw_V (M' := MX1_layAhead) (d' := d - 1) (bc' := 0) (bs' := 0) (ci := 2) (as := [_, _]) dX1_layDown_44 w_456 ok_X1_layAhead (m_layAhead (j := rpN f x 0 c) hS (by have := @rpN_at f x c 0; omega) hc) hS.1 rfl (by omega) (Nat.le_of_ble_eq_true rfl) (Nat.zero_le _) (Nat.zero_le _) (fun E h' n' _ z => shp_x z) (shp_k (fun p2 p2S p2F => ?_))
      refine sw_ret (v := some _) ⟨dX1_layDown_47, _, rfl, rfl⟩ ?_
      have e1 : ldY f c kd x = true := by unfold ldY; rw [bI_0 c7]; rfl
      have e2 : ldP f c kd x = _ := if_pos c28
      rw [e1, e2]
      exact ⟨rfl, rfl, p2S, p2F⟩
  · refine sw_aload_n (pc' := 11) rfl dX1_layDown_10 rfl ?_
    refine sw_iload_n (pc' := 12) rfl dX1_layDown_11 rfl ?_
    refine sw_V (M' := MX1_holds) (d' := d - 1) (bc' := 0) (bs' := 0) (ci := 2) (as := [_]) dX1_layDown_12 w_447 ok_X1_holds (m_holds hS (by omega)) hS.1 rfl (by omega) (Nat.le_of_ble_eq_true rfl) (Nat.zero_le _) (Nat.zero_le _) (fun E h' n' _ z => det_x z) (det_k ?_)
    refine sw_if_eq (pc' := 18) (tgt := 20) rfl dX1_layDown_15 (by decide +kernel) (fun c15 => ?_) (fun c15 => ?_)
    · refine sw_aload_n (pc' := 21) rfl dX1_layDown_20 rfl ?_
      refine sw_aload_n (pc' := 22) rfl dX1_layDown_21 rfl ?_
      refine sw_getf (ci := 2) (k := 0) (pc' := 25) rfl dX1_layDown_22 (by decide +kernel) w_80 hS.1 rfl ?_
      refine sw_gets (pc' := 28) rfl dX1_layDown_25 (v := .ref 2) (by decide +kernel) w_451 ?_
      refine sw_acmp (pc' := 31) (tgt := 39) rfl dX1_layDown_28 (by decide +kernel) hK.1 (by decide +kernel) (fun c28 => ?_) (fun c28 => ?_)
      · refine sw_aload_n (pc' := 40) rfl dX1_layDown_39 rfl ?_
        refine sw_getf (ci := 2) (k := 2) (pc' := 43) rfl dX1_layDown_40 (by decide +kernel) w_83 hS.1 rfl ?_
        refine sw_iload_n (pc' := 44) rfl dX1_layDown_43 rfl ?_
        refine sw_V (M' := MX1_layAhead) (d' := d - 1) (bc' := 0) (bs' := 0) (ci := 2) (as := [_, _]) dX1_layDown_44 w_456 ok_X1_layAhead (m_layAhead (j := c) hS (Nat.le_refl _) hc) hS.1 rfl (by omega) (Nat.le_of_ble_eq_true rfl) (Nat.zero_le _) (Nat.zero_le _) (fun E h' n' _ z => shp_x z) (shp_k (fun p3 p3S p3F => ?_))
        refine sw_ret (v := some _) ⟨dX1_layDown_47, _, rfl, rfl⟩ ?_
        have e1 : ldY f c kd x = true := by unfold ldY; rw [bI_1 c7, bI_0 c15]; rfl
        have e2 : ldP f c kd x = _ := if_neg c28
        rw [e1, e2]
        exact ⟨rfl, rfl, p3S, p3F⟩
      · refine sw_aload_n (pc' := 32) rfl dX1_layDown_31 rfl ?_
        refine sw_iload_n (pc' := 33) rfl dX1_layDown_32 rfl ?_
        refine sw_V (M' := MX1_risingPlace) (d' := d - 1) (bc' := 0) (bs' := 0) (ci := 2) (as := [_]) dX1_layDown_33 w_452 ok_X1_risingPlace (m_risingPlace hS) hS.1 rfl (by omega) (Nat.le_of_ble_eq_true rfl) (Nat.zero_le _) (Nat.zero_le _) (fun E h' n' _ z => det_x z) (det_k ?_)
        refine sw_goto (tgt := 43) dX1_layDown_36 (by decide +kernel) ?_
        refine sw_iload_n (pc' := 44) rfl dX1_layDown_43 rfl ?_
        refine sw_V (M' := MX1_layAhead) (d' := d - 1) (bc' := 0) (bs' := 0) (ci := 2) (as := [_, _]) dX1_layDown_44 w_456 ok_X1_layAhead (m_layAhead (j := rpN f x 0 c) hS (by have := @rpN_at f x c 0; omega) hc) hS.1 rfl (by omega) (Nat.le_of_ble_eq_true rfl) (Nat.zero_le _) (Nat.zero_le _) (fun E h' n' _ z => shp_x z) (shp_k (fun p4 p4S p4F => ?_))
        refine sw_ret (v := some _) ⟨dX1_layDown_47, _, rfl, rfl⟩ ?_
        have e1 : ldY f c kd x = true := by unfold ldY; rw [bI_1 c7, bI_0 c15]; rfl
        have e2 : ldP f c kd x = _ := if_pos c28
        rw [e1, e2]
        exact ⟨rfl, rfl, p4S, p4F⟩
    · refine sw_iconst (pc' := 19) (v := 0) rfl dX1_layDown_18 (by decide +kernel) ?_
      refine sw_ret (v := some _) ⟨dX1_layDown_19, _, rfl, rfl⟩ ?_
      have e1 : ldY f c kd x = false := by unfold ldY; rw [bI_1 c7, bI_1 c15]; rfl
      rw [e1]
      exact ⟨rfl, rfl, hS, FrS.rf⟩
theorem l_becomeListOf {b kd c d bc bs n b2 kd2 c2 k : Nat} {h0 : AH} {f f2 : Nat → Int32} {s t z s2 t2 : Int32} (hd : 1 ≤ d) (hb : b + 2 ≤ b2 ∨ b2 + 2 ≤ b) (hk : k ≤ c2) (m : Nat) : ∀ (i : Nat) (h : AH), k + i + m = c2 → ShF h b kd (blN f f2 k i) c s t → ShF h b2 kd2 f2 c2 s2 t2 → FrS h0 h b → SW SR0 MX1_becomeListOf d bc bs 5 [(4, .int (nI (k + i))), (3, .int (nI i)), (0, .ref b), (1, .ref b2), (2, .int z)] [] h n (ShP h0 b kd none (blN f f2 k (c2 - k)) (c2 - k) (s + 1) t n) := by
  induction m with
  | zero =>
    intro i h hi hS gS hF
    have hic : c2 - k = i := by omega
    rw [hic]
    have hc2 := gS.2.2.1
    refine sw_iload (pc' := 7) rfl dX1_becomeListOf_5 rfl ?_
    refine sw_aload_n (pc' := 8) rfl dX1_becomeListOf_7 rfl ?_
    refine sw_getf (ci := 2) (k := 2) (pc' := 11) rfl dX1_becomeListOf_8 (by decide +kernel) w_83 gS.1 rfl ?_
    refine sw_icmp_ge (pc' := 14) (tgt := 41) rfl dX1_becomeListOf_11 (by decide +kernel) (fun c11 => ?_) (fun c11 => ?_)
    · refine sw_aload_n (pc' := 42) rfl dX1_becomeListOf_41 rfl ?_
      refine sw_iload_n (pc' := 43) rfl dX1_becomeListOf_42 rfl ?_
      refine sw_putf (ci := 2) (k := 2) (pc' := 46) rfl dX1_becomeListOf_43 (by decide +kernel) (by decide +kernel) w_83 rfl hS.1 hS.2.2.2 (Nat.le_of_ble_eq_true rfl) rfl rfl ?_
      refine sw_nm (fun g1 eg1 => ?_)
      have zk2 := (congrFun eg1 _).trans (up_s (h := h) (i := b))
      have zk3 := ((congrFun eg1 (b + 1)).trans (up_n (h := h) (by omega))).trans hS.2.1
      have zk4 := ((congrFun eg1 b2).trans (up_n (h := h) (by omega))).trans gS.1
      have zk5 := ((congrFun eg1 (b2 + 1)).trans (up_n (h := h) (by omega))).trans gS.2.1
      refine sw_aload_n (pc' := 47) rfl dX1_becomeListOf_46 rfl ?_
      refine sw_dup (pc' := 48) rfl dX1_becomeListOf_47 rfl ?_
      refine sw_getf (ci := 2) (k := 3) (pc' := 51) rfl dX1_becomeListOf_48 (by decide +kernel) w_87 zk2 rfl ?_
      refine sw_iconst (pc' := 52) (v := 1) rfl dX1_becomeListOf_51 (by decide +kernel) ?_
      refine sw_iadd (pc' := 53) rfl dX1_becomeListOf_52 ?_
      refine sw_putf (ci := 2) (k := 3) (pc' := 56) rfl dX1_becomeListOf_53 (by decide +kernel) (by decide +kernel) w_87 rfl zk2 hS.2.2.2 (Nat.le_of_ble_eq_true rfl) rfl rfl ?_
      refine sw_nm (fun g6 eg6 => ?_)
      have zk7 := (congrFun eg6 _).trans (up_s (h := g1) (i := b))
      have zk8 := ((congrFun eg6 (b + 1)).trans (up_n (h := g1) (by omega))).trans zk3
      have zk9 := ((congrFun eg6 b2).trans (up_n (h := g1) (by omega))).trans zk4
      have zk10 := ((congrFun eg6 (b2 + 1)).trans (up_n (h := g1) (by omega))).trans zk5
      refine sw_ret (v := none) ⟨dX1_becomeListOf_56, rfl⟩ ?_
      exact ⟨rfl, rfl, ⟨zk7, zk8, by omega, hS.2.2.2⟩, (fun i h1 h2 => (congrFun eg6 i).trans ((up_n h1).trans ((congrFun eg1 i).trans ((up_n h1).trans (hF i h1 h2)))))⟩
    · exact absurd (nI_le (by omega) (by omega)) c11
  | succ m ih =>
    intro i h hi hS gS hF
    have hc2 := gS.2.2.1
    refine sw_iload (pc' := 7) rfl dX1_becomeListOf_5 rfl ?_
    refine sw_aload_n (pc' := 8) rfl dX1_becomeListOf_7 rfl ?_
    refine sw_getf (ci := 2) (k := 2) (pc' := 11) rfl dX1_becomeListOf_8 (by decide +kernel) w_83 gS.1 rfl ?_
    refine sw_icmp_ge (pc' := 14) (tgt := 41) rfl dX1_becomeListOf_11 (by decide +kernel) (fun c11 => ?_) (fun c11 => ?_)
    · exact absurd c11 (nI_ge (by omega) (by omega))
    · refine sw_iload_n (pc' := 15) rfl dX1_becomeListOf_14 rfl ?_
      refine sw_bipush (pc' := 17) (v := 12) rfl dX1_becomeListOf_15 (by decide +kernel) ?_
      refine sw_icmp_ge (pc' := 20) (tgt := 41) rfl dX1_becomeListOf_17 (by decide +kernel) (fun c17 => ?_) (fun c17 => ?_)
      · exact absurd c17 (nI_ge (b := 12) (by omega) (by decide +kernel))
      · refine sw_aload_n (pc' := 21) rfl dX1_becomeListOf_20 rfl ?_
        refine sw_getf (ci := 2) (k := 1) (pc' := 24) rfl dX1_becomeListOf_21 (by decide +kernel) w_82 hS.1 rfl ?_
        refine sw_iload_n (pc' := 25) rfl dX1_becomeListOf_24 rfl ?_
        refine sw_aload_n (pc' := 26) rfl dX1_becomeListOf_25 rfl ?_
        refine sw_iload (pc' := 28) rfl dX1_becomeListOf_26 rfl ?_
        refine sw_V (M' := MX1_thingAt) (d' := d - 1) (bc' := 0) (bs' := 0) (ci := 2) (as := [_]) dX1_becomeListOf_28 w_220 ok_X1_thingAt (m_thingAt gS) gS.1 rfl (by omega) (Nat.le_of_ble_eq_true rfl) (Nat.zero_le _) (Nat.zero_le _) (fun E h' n' _ z => det_x z) (det_k ?_)
        refine sw_iast (pc' := 32) rfl dX1_becomeListOf_31 hS.2.1 (Nat.le_succ_of_le hS.2.2.2) rfl (by omega) (by decide +kernel) ?_
        refine sw_nm (fun g11 eg11 => ?_)
        have zk12 := (congrFun eg11 _).trans (up_s (h := h) (i := (b + 1)))
        have zk13 := ((congrFun eg11 b).trans (up_n (h := h) (by omega))).trans hS.1
        have zk14 := ((congrFun eg11 b2).trans (up_n (h := h) (by omega))).trans gS.1
        have zk15 := ((congrFun eg11 (b2 + 1)).trans (up_n (h := h) (by omega))).trans gS.2.1
        refine sw_iinc (pc' := 35) (lv' := [(3, _), (4, _), (0, _), (1, _), (2, _)]) (v := nI (i + 1)) rfl dX1_becomeListOf_32 rfl (nI_succ i).symm (by decide +kernel) rfl ?_
        refine sw_iinc (pc' := 38) (lv' := [(4, _), (3, _), (0, _), (1, _), (2, _)]) (v := nI (k + (i + 1))) rfl dX1_becomeListOf_35 rfl (nI_succ (k + i)).symm (by decide +kernel) rfl ?_
        refine sw_goto (tgt := 5) dX1_becomeListOf_38 (by decide +kernel) ?_
        exact ih (i + 1) g11 (by omega) ⟨zk13, blN_s ▸ (taI_in (f := f2) (c := c2) (j := k + i) (by omega) hc2) ▸ zk12, hS.2.2⟩ ⟨zk14, zk15, gS.2.2⟩ (fun i h1 h2 => (congrFun eg11 i).trans ((up_n h2).trans (hF i h1 h2)))
theorem m_becomeListOf {b kd c d bc bs n b2 kd2 c2 k : Nat} {h : AH} {f f2 : Nat → Int32} {s t s2 t2 : Int32} (hS : ShF h b kd f c s t) (gS : ShF h b2 kd2 f2 c2 s2 t2) (hd : 1 ≤ d) (hb : b + 2 ≤ b2 ∨ b2 + 2 ≤ b) (hk : k ≤ c2) : SM SR0 MX1_becomeListOf d bc bs [.ref b, .ref b2, .int (nI k)] h n (ShP h b kd none (blN f f2 k (c2 - k)) (c2 - k) (s + 1) t n) := by
  refine sm_of pn_Overwalks_Shelf rfl (Nat.le_of_ble_eq_true rfl) ?_
  refine sw_iconst (pc' := 1) (v := 0) rfl dX1_becomeListOf_0 (by decide +kernel) ?_
  refine sw_istore_n (pc' := 2) (lv' := [(3, _), (0, _), (1, _), (2, _)]) rfl dX1_becomeListOf_1 (by decide +kernel) rfl ?_
  refine sw_iload_n (pc' := 3) rfl dX1_becomeListOf_2 rfl ?_
  refine sw_istore (pc' := 5) (lv' := [(4, _), (3, _), (0, _), (1, _), (2, _)]) rfl dX1_becomeListOf_3 (by decide +kernel) rfl ?_
  exact l_becomeListOf hd hb hk (c2 - k) 0 h (by omega) (by rw [blN_0]; exact hS) gS FrS.rf
theorem l_becomeListOfS {h0 : AH} {z : Int32} {b kd c d bc bs n : Nat} {f : Nat → Int32} {s t : Int32} (hd : 1 ≤ d) (m : Nat) : ∀ (i : Nat) (h : AH), i + m = c → ShF h b kd f c s t → FrS h0 h b → SW SR0 MX1_becomeListOf d bc bs 5 [(4, .int (nI i)), (3, .int (nI i)), (0, .ref b), (1, .ref b), (2, .int z)] [] h n (ShP h0 b kd none f c (s + 1) t n) := by
  induction m with
  | zero =>
    intro i h hi hS hF
    have hic : i = c := by omega
    subst hic
    have hc := hS.2.2.1
    refine sw_iload (pc' := 7) rfl dX1_becomeListOf_5 rfl ?_
    refine sw_aload_n (pc' := 8) rfl dX1_becomeListOf_7 rfl ?_
    refine sw_getf (ci := 2) (k := 2) (pc' := 11) rfl dX1_becomeListOf_8 (by decide +kernel) w_83 hS.1 rfl ?_
    refine sw_icmp_ge (pc' := 14) (tgt := 41) rfl dX1_becomeListOf_11 (by decide +kernel) (fun c11 => ?_) (fun c11 => ?_)
    · refine sw_aload_n (pc' := 42) rfl dX1_becomeListOf_41 rfl ?_
      refine sw_iload_n (pc' := 43) rfl dX1_becomeListOf_42 rfl ?_
      refine sw_putf (ci := 2) (k := 2) (pc' := 46) rfl dX1_becomeListOf_43 (by decide +kernel) (by decide +kernel) w_83 rfl hS.1 hS.2.2.2 (Nat.le_of_ble_eq_true rfl) rfl rfl ?_
      refine sw_nm (fun g16 eg16 => ?_)
      have zk17 := (congrFun eg16 _).trans (up_s (h := h) (i := b))
      have zk18 := ((congrFun eg16 (b + 1)).trans (up_n (h := h) (by omega))).trans hS.2.1
      refine sw_aload_n (pc' := 47) rfl dX1_becomeListOf_46 rfl ?_
      refine sw_dup (pc' := 48) rfl dX1_becomeListOf_47 rfl ?_
      refine sw_getf (ci := 2) (k := 3) (pc' := 51) rfl dX1_becomeListOf_48 (by decide +kernel) w_87 zk17 rfl ?_
      refine sw_iconst (pc' := 52) (v := 1) rfl dX1_becomeListOf_51 (by decide +kernel) ?_
      refine sw_iadd (pc' := 53) rfl dX1_becomeListOf_52 ?_
      refine sw_putf (ci := 2) (k := 3) (pc' := 56) rfl dX1_becomeListOf_53 (by decide +kernel) (by decide +kernel) w_87 rfl zk17 hS.2.2.2 (Nat.le_of_ble_eq_true rfl) rfl rfl ?_
      refine sw_nm (fun g19 eg19 => ?_)
      have zk20 := (congrFun eg19 _).trans (up_s (h := g16) (i := b))
      have zk21 := ((congrFun eg19 (b + 1)).trans (up_n (h := g16) (by omega))).trans zk18
      refine sw_ret (v := none) ⟨dX1_becomeListOf_56, rfl⟩ ?_
      exact ⟨rfl, rfl, ⟨zk20, zk21, by omega, hS.2.2.2⟩, (fun i h1 h2 => (congrFun eg19 i).trans ((up_n h1).trans ((congrFun eg16 i).trans ((up_n h1).trans (hF i h1 h2)))))⟩
    · exact absurd (Int32.le_refl _) c11
  | succ m ih =>
    intro i h hi hS hF
    have hc := hS.2.2.1
    refine sw_iload (pc' := 7) rfl dX1_becomeListOf_5 rfl ?_
    refine sw_aload_n (pc' := 8) rfl dX1_becomeListOf_7 rfl ?_
    refine sw_getf (ci := 2) (k := 2) (pc' := 11) rfl dX1_becomeListOf_8 (by decide +kernel) w_83 hS.1 rfl ?_
    refine sw_icmp_ge (pc' := 14) (tgt := 41) rfl dX1_becomeListOf_11 (by decide +kernel) (fun c11 => ?_) (fun c11 => ?_)
    · exact absurd c11 (nI_ge (by omega) (by omega))
    · refine sw_iload_n (pc' := 15) rfl dX1_becomeListOf_14 rfl ?_
      refine sw_bipush (pc' := 17) (v := 12) rfl dX1_becomeListOf_15 (by decide +kernel) ?_
      refine sw_icmp_ge (pc' := 20) (tgt := 41) rfl dX1_becomeListOf_17 (by decide +kernel) (fun c17 => ?_) (fun c17 => ?_)
      · exact absurd c17 (nI_ge (b := 12) (by omega) (by decide +kernel))
      · refine sw_aload_n (pc' := 21) rfl dX1_becomeListOf_20 rfl ?_
        refine sw_getf (ci := 2) (k := 1) (pc' := 24) rfl dX1_becomeListOf_21 (by decide +kernel) w_82 hS.1 rfl ?_
        refine sw_iload_n (pc' := 25) rfl dX1_becomeListOf_24 rfl ?_
        refine sw_aload_n (pc' := 26) rfl dX1_becomeListOf_25 rfl ?_
        refine sw_iload (pc' := 28) rfl dX1_becomeListOf_26 rfl ?_
        refine sw_V (M' := MX1_thingAt) (d' := d - 1) (bc' := 0) (bs' := 0) (ci := 2) (as := [_]) dX1_becomeListOf_28 w_220 ok_X1_thingAt (m_thingAt hS) hS.1 rfl (by omega) (Nat.le_of_ble_eq_true rfl) (Nat.zero_le _) (Nat.zero_le _) (fun E h' n' _ z => det_x z) (det_k ?_)
        refine sw_iast (pc' := 32) rfl dX1_becomeListOf_31 hS.2.1 (Nat.le_succ_of_le hS.2.2.2) rfl (by omega) (by decide +kernel) ?_
        refine sw_nm (fun g22 eg22 => ?_)
        have zk23 := (congrFun eg22 _).trans (up_s (h := h) (i := (b + 1)))
        have zk24 := ((congrFun eg22 b).trans (up_n (h := h) (by omega))).trans hS.1
        refine sw_iinc (pc' := 35) (lv' := [(3, _), (4, _), (0, _), (1, _), (2, _)]) (v := nI (i + 1)) rfl dX1_becomeListOf_32 rfl (nI_succ i).symm (by decide +kernel) rfl ?_
        refine sw_iinc (pc' := 38) (lv' := [(4, _), (3, _), (0, _), (1, _), (2, _)]) (v := nI (i + 1)) rfl dX1_becomeListOf_35 rfl (nI_succ i).symm (by decide +kernel) rfl ?_
        refine sw_goto (tgt := 5) dX1_becomeListOf_38 (by decide +kernel) ?_
        exact ih (i + 1) g22 (by omega) ⟨zk24, (show up f i (taI f c (nI i)) = f from by rw [taI_in (by omega) hc]; exact up_id) ▸ zk23, hS.2.2⟩ (fun i h1 h2 => (congrFun eg22 i).trans ((up_n h2).trans (hF i h1 h2)))
theorem m_becomeListOfS {h : AH} {b kd c d bc bs n : Nat} {f : Nat → Int32} {s t : Int32} (hS : ShF h b kd f c s t) (hd : 1 ≤ d) : SM SR0 MX1_becomeListOf d bc bs [.ref b, .ref b, .int 0] h n (ShP h b kd none f c (s + 1) t n) := by
  refine sm_of pn_Overwalks_Shelf rfl (Nat.le_of_ble_eq_true rfl) ?_
  refine sw_iconst (pc' := 1) (v := 0) rfl dX1_becomeListOf_0 (by decide +kernel) ?_
  refine sw_istore_n (pc' := 2) (lv' := [(3, _), (0, _), (1, _), (2, _)]) rfl dX1_becomeListOf_1 (by decide +kernel) rfl ?_
  refine sw_iload_n (pc' := 3) rfl dX1_becomeListOf_2 rfl ?_
  refine sw_istore (pc' := 5) (lv' := [(4, _), (3, _), (0, _), (1, _), (2, _)]) rfl dX1_becomeListOf_3 (by decide +kernel) rfl ?_
  exact l_becomeListOfS hd c 0 h (by omega) hS FrS.rf
