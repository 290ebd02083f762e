/-! Shelf: its picture, its methods that read -/
/-- at b a Shelf of kind kd, c things lie on it, f in its array at b + 1 -/
def ShF (h : AH) (b kd : Nat) (f : Nat → Int32) (c : Nat) (s t : Int32) : Prop := h b = .inr (2, [.ref kd, .ref (b + 1), .int (nI c), .int s, .int t]) ∧ h (b + 1) = .inl (0, 12, .inl f) ∧ c ≤ 12 ∧ nC ≤ b
def bI (b : Bool) : Int32 := if b then 1 else 0
theorem bI_0 {b : Bool} (h : bI b = 0) : b = false := by cases b <;> simp_all [bI]
theorem bI_1 {b : Bool} (h : ¬ bI b = 0) : b = true := by cases b <;> simp_all [bI]
theorem bI_i {b : Bool} : narrow .boolean (.int (bI b)) = .int (bI b) := by cases b <;> rfl
def kP (k : Nat) : Bool := decide (k = 1)
def kN (k : Nat) : Bool := decide (k = 1) || decide (k = 3)
def kE (k : Nat) : Bool := decide (k = 2) || decide (k = 3)
/-- the Kind k -/
def KdF (h : AH) (k : Nat) : Prop := (1 ≤ k ∧ k ≤ 5) ∧ h k = .inr (7, [.int (bI (kP k)), .int (bI (kN k)), .int (bI (kE k))])
/-- the first place of x from j on, among m places -/
def fpN (f : Nat → Int32) (x : Int32) : Nat → Nat → Option Nat
  | _, 0 => none
  | j, m + 1 => if f j = x then some j else fpN f x (j + 1) m
/-- the last of the first m places -/
def lpN (f : Nat → Int32) (x : Int32) : Nat → Option Nat
  | 0 => none
  | m + 1 => if f m = x then some m else lpN f x m
def coN (f : Nat → Int32) (x : Int32) : Nat → Nat → Nat
  | _, 0 => 0
  | j, m + 1 => (if f j = x then 1 else 0) + coN f x (j + 1) m
def rpN (f : Nat → Int32) (x : Int32) : Nat → Nat → Nat
  | j, 0 => j
  | j, m + 1 => if f j < x then rpN f x (j + 1) m else j
/-- does it rise from place j on, m places -/
def riB (f : Nat → Int32) : Nat → Nat → Bool
  | _, 0 => true
  | j, m + 1 => decide (f (j - 1) < f j) && riB f (j + 1) m
def eoB (f : Nat → Int32) (c : Nat) : Nat → Nat → Bool
  | _, 0 => true
  | j, m + 1 => decide (fpN f (f j) 0 c = some j) && eoB f c (j + 1) m
def opI (o : Option Nat) : Int32 := match o with
  | some j => nI j
  | none => -1
def taI (f : Nat → Int32) (c : Nat) (x : Int32) : Int32 := if ¬ x < 0 ∧ ¬ nI c ≤ x then f x.toNatClampNeg else -1
theorem fpN_at {f : Nat → Int32} {x : Int32} {m : Nat} : ∀ {j i : Nat}, fpN f x j m = some i → j ≤ i ∧ i < j + m ∧ f i = x := by
  induction m with
  | zero => intro j i h; cases h
  | succ m ih =>
    intro j i h
    unfold fpN at h
    split at h
    · next q => cases h; exact ⟨by omega, by omega, q⟩
    · have := ih h; exact ⟨by omega, by omega, this.2.2⟩
theorem rpN_at {f : Nat → Int32} {x : Int32} {m : Nat} : ∀ {j : Nat}, j ≤ rpN f x j m ∧ rpN f x j m ≤ j + m := by
  induction m with
  | zero => intro j; exact ⟨Nat.le_refl _, Nat.le_refl _⟩
  | succ m ih =>
    intro j
    unfold rpN
    split
    · have := @ih (j + 1); omega
    · omega
theorem i_m1 (x : Int32) : x + Int32.ofInt (-1) = x - 1 := (Int32.sub_eq_add_neg x 1).symm
theorem opI_n {o : Option Nat} (h : ∀ j, o = some j → j < 2 ^ 31) (g : opI o = -1) : o = none := by
  cases o with
  | none => rfl
  | some j => exact absurd (show nI j < 0 from (show nI j = -1 from g) ▸ (by decide +kernel)) (nI_pos (h j rfl))
theorem opI_s {o : Option Nat} {j : Nat} (h : ∀ i, o = some i → i < 2 ^ 31) (hj : j < 2 ^ 31) (g : opI o = nI j) : o = some j := by
  cases o with
  | none => exact absurd (show nI j < 0 from (show -1 = nI j from g) ▸ (by decide +kernel)) (nI_pos hj)
  | some i => exact congrArg some ((nI_eq (h i rfl) hj).mp g)
theorem m_isOfTable {h : AH} {b kd c d bc bs n : Nat} {f : Nat → Int32} {s t : Int32} (hS : ShF h b kd f c s t) (hk : 1 ≤ kd ∧ kd ≤ 5) : SM SR0 MX1_isOfTable d bc bs [.ref b] h n (Det (.inl (some (.int (bI (decide (kd = 5)))))) h n) := by
  refine sm_of pn_Overwalks_Shelf rfl (Nat.le_of_ble_eq_true rfl) ?_
  refine sw_aload_n (pc' := 1) rfl dX1_isOfTable_0 rfl ?_
  refine sw_getf (ci := 2) (k := 0) (pc' := 4) rfl dX1_isOfTable_1 (by decide +kernel) w_80 hS.1 rfl ?_
  refine sw_gets (pc' := 7) rfl dX1_isOfTable_4 (v := .ref 5) (by decide +kernel) w_434 ?_
  refine sw_acmp (pc' := 10) (tgt := 14) rfl dX1_isOfTable_7 (by decide +kernel) hk (by decide +kernel) (fun c7 => ?_) (fun c7 => ?_)
  · refine sw_iconst (pc' := 15) (v := 0) rfl dX1_isOfTable_14 (by decide +kernel) ?_
    refine sw_ret (v := some _) ⟨dX1_isOfTable_15, _, rfl, rfl⟩ ?_
    exact ⟨by simp_all [bI], rfl, rfl⟩
  · refine sw_iconst (pc' := 11) (v := 1) rfl dX1_isOfTable_10 (by decide +kernel) ?_
    refine sw_goto (tgt := 15) dX1_isOfTable_11 (by decide +kernel) ?_
    refine sw_ret (v := some _) ⟨dX1_isOfTable_15, _, rfl, rfl⟩ ?_
    exact ⟨by simp_all [bI], rfl, rfl⟩
theorem m_takesIn {h : AH} {b kd c d bc bs n : Nat} {f : Nat → Int32} {s t x : Int32} (hS : ShF h b kd f c s t) (hK : KdF h kd) : SM SR0 MX1_takesIn d bc bs [.ref b, .int x] h n (Det (.inl (some (.int (bI (decide (x ≠ 100) || kN kd))))) h n) := by
  refine sm_of pn_Overwalks_Shelf rfl (Nat.le_of_ble_eq_true rfl) ?_
  refine sw_iload_n (pc' := 1) rfl dX1_takesIn_0 rfl ?_
  refine sw_bipush (pc' := 3) (v := 100) rfl dX1_takesIn_1 (by decide +kernel) ?_
  refine sw_icmp_ne (pc' := 6) (tgt := 16) rfl dX1_takesIn_3 (by decide +kernel) (fun c3 => ?_) (fun c3 => ?_)
  · refine sw_iconst (pc' := 17) (v := 1) rfl dX1_takesIn_16 (by decide +kernel) ?_
    refine sw_goto (tgt := 21) dX1_takesIn_17 (by decide +kernel) ?_
    refine sw_ret (v := some _) ⟨dX1_takesIn_21, _, rfl, rfl⟩ ?_
    exact ⟨by rw [show decide (x ≠ 100) = true from decide_eq_true c3]; rfl, rfl, rfl⟩
  · refine sw_aload_n (pc' := 7) rfl dX1_takesIn_6 rfl ?_
    refine sw_getf (ci := 2) (k := 0) (pc' := 10) rfl dX1_takesIn_7 (by decide +kernel) w_80 hS.1 rfl ?_
    refine sw_getf (ci := 7) (k := 1) (pc' := 13) rfl dX1_takesIn_10 (by decide +kernel) w_1503 hK.2 rfl ?_
    refine sw_if_eq (pc' := 16) (tgt := 20) rfl dX1_takesIn_13 (by decide +kernel) (fun c13 => ?_) (fun c13 => ?_)
    · refine sw_iconst (pc' := 21) (v := 0) rfl dX1_takesIn_20 (by decide +kernel) ?_
      refine sw_ret (v := some _) ⟨dX1_takesIn_21, _, rfl, rfl⟩ ?_
      exact ⟨by rw [bI_0 c13, show decide (x ≠ 100) = false from decide_eq_false (fun q => q c3)]; rfl, rfl, rfl⟩
    · refine sw_iconst (pc' := 17) (v := 1) rfl dX1_takesIn_16 (by decide +kernel) ?_
      refine sw_goto (tgt := 21) dX1_takesIn_17 (by decide +kernel) ?_
      refine sw_ret (v := some _) ⟨dX1_takesIn_21, _, rfl, rfl⟩ ?_
      exact ⟨by rw [bI_1 c13, Bool.or_true]; rfl, rfl, rfl⟩
theorem m_thingAt {h : AH} {b kd c d bc bs n : Nat} {f : Nat → Int32} {s t x : Int32} (hS : ShF h b kd f c s t) : SM SR0 MX1_thingAt d bc bs [.ref b, .int x] h n (Det (.inl (some (.int (taI f c x)))) h n) := by
  refine sm_of pn_Overwalks_Shelf rfl (Nat.le_of_ble_eq_true rfl) ?_
  refine sw_iload_n (pc' := 1) rfl dX1_thingAt_0 rfl ?_
  refine sw_if_lt (pc' := 4) (tgt := 21) rfl dX1_thingAt_1 (by decide +kernel) (fun c1 => ?_) (fun c1 => ?_)
  · refine sw_iconst (pc' := 22) (v := (-1)) rfl dX1_thingAt_21 (by decide +kernel) ?_
    refine sw_ret (v := some _) ⟨dX1_thingAt_22, _, rfl, rfl⟩ ?_
    exact ⟨by rw [taI, if_neg (fun q => q.1 c1)], rfl, rfl⟩
  · refine sw_iload_n (pc' := 5) rfl dX1_thingAt_4 rfl ?_
    refine sw_aload_n (pc' := 6) rfl dX1_thingAt_5 rfl ?_
    refine sw_getf (ci := 2) (k := 2) (pc' := 9) rfl dX1_thingAt_6 (by decide +kernel) w_83 hS.1 rfl ?_
    refine sw_icmp_ge (pc' := 12) (tgt := 21) rfl dX1_thingAt_9 (by decide +kernel) (fun c9 => ?_) (fun c9 => ?_)
    · refine sw_iconst (pc' := 22) (v := (-1)) rfl dX1_thingAt_21 (by decide +kernel) ?_
      refine sw_ret (v := some _) ⟨dX1_thingAt_22, _, rfl, rfl⟩ ?_
      exact ⟨by rw [taI, if_neg (fun q => q.2 c9)], rfl, rfl⟩
    · obtain ⟨j, hj, rfl⟩ := nI_of c1
      have hc := hS.2.2.1
      have hjc : j < c := Nat.lt_of_not_le (fun q => c9 ((nI_leI (by omega) hj).mpr q))
      refine sw_aload_n (pc' := 13) rfl dX1_thingAt_12 rfl ?_
      refine sw_getf (ci := 2) (k := 1) (pc' := 16) rfl dX1_thingAt_13 (by decide +kernel) w_82 hS.1 rfl ?_
      refine sw_iload_n (pc' := 17) rfl dX1_thingAt_16 rfl ?_
      refine sw_iald (pc' := 18) rfl dX1_thingAt_17 hS.2.1 rfl (by omega) (by decide +kernel) ?_
      refine sw_goto (tgt := 22) dX1_thingAt_18 (by decide +kernel) ?_
      refine sw_ret (v := some _) ⟨dX1_thingAt_22, _, rfl, rfl⟩ ?_
      exact ⟨by rw [taI, if_pos ⟨c1, c9⟩, nI_clamp hj], rfl, rfl⟩
theorem l_firstPlace {h : AH} {b kd c d bc bs n : Nat} {f : Nat → Int32} {s t x : Int32} (hS : ShF h b kd f c s t) (m : Nat) : ∀ j, j + m = c → SW SR0 MX1_firstPlace d bc bs 2 [(2, .int (nI j)), (0, .ref b), (1, .int x)] [] h n (Det (.inl (some (.int (opI (fpN f x j m))))) h n) := by
  have hc := hS.2.2.1
  induction m with
  | zero =>
    intro j hj
    have hjc : j = c := by omega
    subst hjc
    refine sw_iload_n (pc' := 3) rfl dX1_firstPlace_2 rfl ?_
    refine sw_aload_n (pc' := 4) rfl dX1_firstPlace_3 rfl ?_
    refine sw_getf (ci := 2) (k := 2) (pc' := 7) rfl dX1_firstPlace_4 (by decide +kernel) w_83 hS.1 rfl ?_
    refine sw_icmp_ge (pc' := 10) (tgt := 28) rfl dX1_firstPlace_7 (by decide +kernel) (fun c7 => ?_) (fun c7 => ?_)
    · refine sw_iconst (pc' := 29) (v := (-1)) rfl dX1_firstPlace_28 (by decide +kernel) ?_
      refine sw_ret (v := some _) ⟨dX1_firstPlace_29, _, rfl, rfl⟩ ?_
      exact ⟨rfl, rfl, rfl⟩
    · exact absurd (Int32.le_refl _) c7
  | succ m ih =>
    intro j hj
    refine sw_iload_n (pc' := 3) rfl dX1_firstPlace_2 rfl ?_
    refine sw_aload_n (pc' := 4) rfl dX1_firstPlace_3 rfl ?_
    refine sw_getf (ci := 2) (k := 2) (pc' := 7) rfl dX1_firstPlace_4 (by decide +kernel) w_83 hS.1 rfl ?_
    refine sw_icmp_ge (pc' := 10) (tgt := 28) rfl dX1_firstPlace_7 (by decide +kernel) (fun c7 => ?_) (fun c7 => ?_)
    · exact absurd c7 (nI_ge (by omega) (by omega))
    · refine sw_aload_n (pc' := 11) rfl dX1_firstPlace_10 rfl ?_
      refine sw_getf (ci := 2) (k := 1) (pc' := 14) rfl dX1_firstPlace_11 (by decide +kernel) w_82 hS.1 rfl ?_
      refine sw_iload_n (pc' := 15) rfl dX1_firstPlace_14 rfl ?_
      refine sw_iald (pc' := 16) rfl dX1_firstPlace_15 hS.2.1 rfl (by omega) (by decide +kernel) ?_
      refine sw_iload_n (pc' := 17) rfl dX1_firstPlace_16 rfl ?_
      refine sw_icmp_ne (pc' := 20) (tgt := 22) rfl dX1_firstPlace_17 (by decide +kernel) (fun c17 => ?_) (fun c17 => ?_)
      · refine sw_iinc (pc' := 25) (lv' := [(2, _), (0, _), (1, _)]) (v := nI (j + 1)) rfl dX1_firstPlace_22 rfl (nI_succ j).symm (by decide +kernel) rfl ?_
        refine sw_goto (tgt := 2) dX1_firstPlace_25 (by decide +kernel) ?_
        rw [fpN, if_neg c17]
        exact ih (j + 1) (by omega)
      · refine sw_iload_n (pc' := 21) rfl dX1_firstPlace_20 rfl ?_
        refine sw_ret (v := some _) ⟨dX1_firstPlace_21, _, rfl, rfl⟩ ?_
        exact ⟨by rw [fpN, if_pos c17]; rfl, rfl, rfl⟩
theorem m_firstPlace {h : AH} {b kd c d bc bs n : Nat} {f : Nat → Int32} {s t x : Int32} (hS : ShF h b kd f c s t) : SM SR0 MX1_firstPlace d bc bs [.ref b, .int x] h n (Det (.inl (some (.int (opI (fpN f x 0 c))))) h n) := by
  refine sm_of pn_Overwalks_Shelf rfl (Nat.le_of_ble_eq_true rfl) ?_
  refine sw_iconst (pc' := 1) (v := 0) rfl dX1_firstPlace_0 (by decide +kernel) ?_
  refine sw_istore_n (pc' := 2) (lv' := [(2, _), (0, _), (1, _)]) rfl dX1_firstPlace_1 (by decide +kernel) rfl ?_
  exact l_firstPlace hS c 0 (by omega)
theorem l_lastPlace {h : AH} {b kd c d bc bs n : Nat} {f : Nat → Int32} {s t x : Int32} (hS : ShF h b kd f c s t) (m : Nat) : m ≤ c → SW SR0 MX1_lastPlace d bc bs 7 [(2, .int (nI m - 1)), (0, .ref b), (1, .int x)] [] h n (Det (.inl (some (.int (opI (lpN f x m))))) h n) := by
  have hc := hS.2.2.1
  induction m with
  | zero =>
    intro hj
    refine sw_iload_n (pc' := 8) rfl dX1_lastPlace_7 rfl ?_
    refine sw_if_lt (pc' := 11) (tgt := 29) rfl dX1_lastPlace_8 (by decide +kernel) (fun c8 => ?_) (fun c8 => ?_)
    · refine sw_iconst (pc' := 30) (v := (-1)) rfl dX1_lastPlace_29 (by decide +kernel) ?_
      refine sw_ret (v := some _) ⟨dX1_lastPlace_30, _, rfl, rfl⟩ ?_
      exact ⟨rfl, rfl, rfl⟩
    · exact absurd (by decide +kernel) c8
  | succ m ih =>
    intro hj
    rw [nI_pred]
    refine sw_iload_n (pc' := 8) rfl dX1_lastPlace_7 rfl ?_
    refine sw_if_lt (pc' := 11) (tgt := 29) rfl dX1_lastPlace_8 (by decide +kernel) (fun c8 => ?_) (fun c8 => ?_)
    · exact absurd c8 (nI_pos (by omega))
    · refine sw_aload_n (pc' := 12) rfl dX1_lastPlace_11 rfl ?_
      refine sw_getf (ci := 2) (k := 1) (pc' := 15) rfl dX1_lastPlace_12 (by decide +kernel) w_82 hS.1 rfl ?_
      refine sw_iload_n (pc' := 16) rfl dX1_lastPlace_15 rfl ?_
      refine sw_iald (pc' := 17) rfl dX1_lastPlace_16 hS.2.1 rfl (by omega) (by decide +kernel) ?_
      refine sw_iload_n (pc' := 18) rfl dX1_lastPlace_17 rfl ?_
      refine sw_icmp_ne (pc' := 21) (tgt := 23) rfl dX1_lastPlace_18 (by decide +kernel) (fun c18 => ?_) (fun c18 => ?_)
      · refine sw_iinc (pc' := 26) (lv' := [(2, _), (0, _), (1, _)]) (v := nI m - 1) rfl dX1_lastPlace_23 rfl (i_m1 _) (by decide +kernel) rfl ?_
        refine sw_goto (tgt := 7) dX1_lastPlace_26 (by decide +kernel) ?_
        rw [lpN, if_neg c18]
        exact ih (by omega)
      · refine sw_iload_n (pc' := 22) rfl dX1_lastPlace_21 rfl ?_
        refine sw_ret (v := some _) ⟨dX1_lastPlace_22, _, rfl, rfl⟩ ?_
        exact ⟨by rw [lpN, if_pos c18]; rfl, rfl, rfl⟩
theorem m_lastPlace {h : AH} {b kd c d bc bs n : Nat} {f : Nat → Int32} {s t x : Int32} (hS : ShF h b kd f c s t) : SM SR0 MX1_lastPlace d bc bs [.ref b, .int x] h n (Det (.inl (some (.int (opI (lpN f x c))))) h n) := by
  refine sm_of pn_Overwalks_Shelf rfl (Nat.le_of_ble_eq_true rfl) ?_
  refine sw_aload_n (pc' := 1) rfl dX1_lastPlace_0 rfl ?_
  refine sw_getf (ci := 2) (k := 2) (pc' := 4) rfl dX1_lastPlace_1 (by decide +kernel) w_83 hS.1 rfl ?_
  refine sw_iconst (pc' := 5) (v := 1) rfl dX1_lastPlace_4 (by decide +kernel) ?_
  refine sw_isub (pc' := 6) rfl dX1_lastPlace_5 ?_
  refine sw_istore_n (pc' := 7) (lv' := [(2, _), (0, _), (1, _)]) rfl dX1_lastPlace_6 (by decide +kernel) rfl ?_
  exact l_lastPlace hS c (Nat.le_refl _)
theorem m_holds {h : AH} {b kd c d bc bs n : Nat} {f : Nat → Int32} {s t x : Int32} (hS : ShF h b kd f c s t) (hd : 1 ≤ d) : SM SR0 MX1_holds d bc bs [.ref b, .int x] h n (Det (.inl (some (.int (bI (fpN f x 0 c).isSome)))) h n) := by
  have hc := hS.2.2.1
  refine sm_of pn_Overwalks_Shelf rfl (Nat.le_of_ble_eq_true rfl) ?_
  refine sw_aload_n (pc' := 1) rfl dX1_holds_0 rfl ?_
  refine sw_iload_n (pc' := 2) rfl dX1_holds_1 rfl ?_
  refine sw_V (M' := MX1_firstPlace) (d' := d - 1) (bc' := 0) (bs' := 0) (ci := 2) (as := [_]) dX1_holds_2 w_247 ok_X1_firstPlace (m_firstPlace hS) hS.1 rfl (by omega) (Nat.le_of_ble_eq_true rfl) (Nat.zero_le _) (Nat.zero_le _) (fun E h' n' _ z => det_x z) (det_k ?_)
  refine sw_iconst (pc' := 6) (v := (-1)) rfl dX1_holds_5 (by decide +kernel) ?_
  refine sw_icmp_eq (pc' := 9) (tgt := 13) rfl dX1_holds_6 (by decide +kernel) (fun c6 => ?_) (fun c6 => ?_)
  · refine sw_iconst (pc' := 14) (v := 0) rfl dX1_holds_13 (by decide +kernel) ?_
    refine sw_ret (v := some _) ⟨dX1_holds_14, _, rfl, rfl⟩ ?_
    rw [opI_n (fun j e => by have := fpN_at e; omega) c6]
    exact ⟨rfl, rfl, rfl⟩
  · refine sw_iconst (pc' := 10) (v := 1) rfl dX1_holds_9 (by decide +kernel) ?_
    refine sw_goto (tgt := 14) dX1_holds_10 (by decide +kernel) ?_
    refine sw_ret (v := some _) ⟨dX1_holds_14, _, rfl, rfl⟩ ?_
    have g : (fpN f x 0 c).isSome = true := by
      cases e : fpN f x 0 c with
      | none => rw [e] at c6; exact absurd rfl c6
      | some j => rfl
    rw [g]
    exact ⟨rfl, rfl, rfl⟩
theorem l_countOf {h : AH} {b kd c d bc bs n : Nat} {f : Nat → Int32} {s t x : Int32} (hS : ShF h b kd f c s t) (m : Nat) : ∀ j a, j + m = c → SW SR0 MX1_countOf d bc bs 4 [(3, .int (nI j)), (2, .int (nI a)), (0, .ref b), (1, .int x)] [] h n (Det (.inl (some (.int (nI (a + coN f x j m))))) h n) := by
  have hc := hS.2.2.1
  induction m with
  | zero =>
    intro j a hj
    have hjc : j = c := by omega
    subst hjc
    refine sw_iload_n (pc' := 5) rfl dX1_countOf_4 rfl ?_
    refine sw_aload_n (pc' := 6) rfl dX1_countOf_5 rfl ?_
    refine sw_getf (ci := 2) (k := 2) (pc' := 9) rfl dX1_countOf_6 (by decide +kernel) w_83 hS.1 rfl ?_
    refine sw_icmp_ge (pc' := 12) (tgt := 31) rfl dX1_countOf_9 (by decide +kernel) (fun c9 => ?_) (fun c9 => ?_)
    · refine sw_iload_n (pc' := 32) rfl dX1_countOf_31 rfl ?_
      refine sw_ret (v := some _) ⟨dX1_countOf_32, _, rfl, rfl⟩ ?_
      exact ⟨rfl, rfl, rfl⟩
    · exact absurd (Int32.le_refl _) c9
  | succ m ih =>
    intro j a hj
    refine sw_iload_n (pc' := 5) rfl dX1_countOf_4 rfl ?_
    refine sw_aload_n (pc' := 6) rfl dX1_countOf_5 rfl ?_
    refine sw_getf (ci := 2) (k := 2) (pc' := 9) rfl dX1_countOf_6 (by decide +kernel) w_83 hS.1 rfl ?_
    refine sw_icmp_ge (pc' := 12) (tgt := 31) rfl dX1_countOf_9 (by decide +kernel) (fun c9 => ?_) (fun c9 => ?_)
    · exact absurd c9 (nI_ge (by omega) (by omega))
    · refine sw_aload_n (pc' := 13) rfl dX1_countOf_12 rfl ?_
      refine sw_getf (ci := 2) (k := 1) (pc' := 16) rfl dX1_countOf_13 (by decide +kernel) w_82 hS.1 rfl ?_
      refine sw_iload_n (pc' := 17) rfl dX1_countOf_16 rfl ?_
      refine sw_iald (pc' := 18) rfl dX1_countOf_17 hS.2.1 rfl (by omega) (by decide +kernel) ?_
      refine sw_iload_n (pc' := 19) rfl dX1_countOf_18 rfl ?_
      refine sw_icmp_ne (pc' := 22) (tgt := 25) rfl dX1_countOf_19 (by decide +kernel) (fun c19 => ?_) (fun c19 => ?_)
      · refine sw_iinc (pc' := 28) (lv' := [(3, _), (2, _), (0, _), (1, _)]) (v := nI (j + 1)) rfl dX1_countOf_25 rfl (nI_succ j).symm (by decide +kernel) rfl ?_
        refine sw_goto (tgt := 4) dX1_countOf_28 (by decide +kernel) ?_
        rw [coN, if_neg c19, Nat.zero_add]
        exact ih (j + 1) a (by omega)
      · refine sw_iinc (pc' := 25) (lv' := [(2, _), (3, _), (0, _), (1, _)]) (v := nI (a + 1)) rfl dX1_countOf_22 rfl (nI_succ a).symm (by decide +kernel) rfl ?_
        refine sw_iinc (pc' := 28) (lv' := [(3, _), (2, _), (0, _), (1, _)]) (v := nI (j + 1)) rfl dX1_countOf_25 rfl (nI_succ j).symm (by decide +kernel) rfl ?_
        refine sw_goto (tgt := 4) dX1_countOf_28 (by decide +kernel) ?_
        rw [coN, if_pos c19, ← Nat.add_assoc]
        exact ih (j + 1) (a + 1) (by omega)
theorem m_countOf {h : AH} {b kd c d bc bs n : Nat} {f : Nat → Int32} {s t x : Int32} (hS : ShF h b kd f c s t) : SM SR0 MX1_countOf d bc bs [.ref b, .int x] h n (Det (.inl (some (.int (nI (coN f x 0 c))))) h n) := by
  refine sm_of pn_Overwalks_Shelf rfl (Nat.le_of_ble_eq_true rfl) ?_
  refine sw_iconst (pc' := 1) (v := 0) rfl dX1_countOf_0 (by decide +kernel) ?_
  refine sw_istore_n (pc' := 2) (lv' := [(2, _), (0, _), (1, _)]) rfl dX1_countOf_1 (by decide +kernel) rfl ?_
  refine sw_iconst (pc' := 3) (v := 0) rfl dX1_countOf_2 (by decide +kernel) ?_
  refine sw_istore_n (pc' := 4) (lv' := [(3, _), (2, _), (0, _), (1, _)]) rfl dX1_countOf_3 (by decide +kernel) rfl ?_
  have k := l_countOf (d := d) (bc := bc) (bs := bs) (n := n) (x := x) hS c 0 0 (by omega)
  rw [Nat.zero_add] at k
  exact k
theorem l_risingPlace {h : AH} {b kd c d bc bs n : Nat} {f : Nat → Int32} {s t x : Int32} (hS : ShF h b kd f c s t) (m : Nat) : ∀ j, j + m = c → SW SR0 MX1_risingPlace d bc bs 2 [(2, .int (nI j)), (0, .ref b), (1, .int x)] [] h n (Det (.inl (some (.int (nI (rpN f x j m))))) h n) := by
  have hc := hS.2.2.1
  induction m with
  | zero =>
    intro j hj
    have hjc : j = c := by omega
    subst hjc
    refine sw_iload_n (pc' := 3) rfl dX1_risingPlace_2 rfl ?_
    refine sw_aload_n (pc' := 4) rfl dX1_risingPlace_3 rfl ?_
    refine sw_getf (ci := 2) (k := 2) (pc' := 7) rfl dX1_risingPlace_4 (by decide +kernel) w_83 hS.1 rfl ?_
    refine sw_icmp_ge (pc' := 10) (tgt := 26) rfl dX1_risingPlace_7 (by decide +kernel) (fun c7 => ?_) (fun c7 => ?_)
    · refine sw_iload_n (pc' := 27) rfl dX1_risingPlace_26 rfl ?_
      refine sw_ret (v := some _) ⟨dX1_risingPlace_27, _, rfl, rfl⟩ ?_
      exact ⟨rfl, rfl, rfl⟩
    · exact absurd (Int32.le_refl _) c7
  | succ m ih =>
    intro j hj
    refine sw_iload_n (pc' := 3) rfl dX1_risingPlace_2 rfl ?_
    refine sw_aload_n (pc' := 4) rfl dX1_risingPlace_3 rfl ?_
    refine sw_getf (ci := 2) (k := 2) (pc' := 7) rfl dX1_risingPlace_4 (by decide +kernel) w_83 hS.1 rfl ?_
    refine sw_icmp_ge (pc' := 10) (tgt := 26) rfl dX1_risingPlace_7 (by decide +kernel) (fun c7 => ?_) (fun c7 => ?_)
    · exact absurd c7 (nI_ge (by omega) (by omega))
    · refine sw_aload_n (pc' := 11) rfl dX1_risingPlace_10 rfl ?_
      refine sw_getf (ci := 2) (k := 1) (pc' := 14) rfl dX1_risingPlace_11 (by decide +kernel) w_82 hS.1 rfl ?_
      refine sw_iload_n (pc' := 15) rfl dX1_risingPlace_14 rfl ?_
      refine sw_iald (pc' := 16) rfl dX1_risingPlace_15 hS.2.1 rfl (by omega) (by decide +kernel) ?_
      refine sw_iload_n (pc' := 17) rfl dX1_risingPlace_16 rfl ?_
      refine sw_icmp_ge (pc' := 20) (tgt := 26) rfl dX1_risingPlace_17 (by decide +kernel) (fun c17 => ?_) (fun c17 => ?_)
      · refine sw_iload_n (pc' := 27) rfl dX1_risingPlace_26 rfl ?_
        refine sw_ret (v := some _) ⟨dX1_risingPlace_27, _, rfl, rfl⟩ ?_
        exact ⟨by rw [rpN, if_neg (Int32.not_lt.mpr c17)], rfl, rfl⟩
      · refine sw_iinc (pc' := 23) (lv' := [(2, _), (0, _), (1, _)]) (v := nI (j + 1)) rfl dX1_risingPlace_20 rfl (nI_succ j).symm (by decide +kernel) rfl ?_
        refine sw_goto (tgt := 2) dX1_risingPlace_23 (by decide +kernel) ?_
        rw [rpN, if_pos (Int32.not_le.mp c17)]
        exact ih (j + 1) (by omega)
theorem m_risingPlace {h : AH} {b kd c d bc bs n : Nat} {f : Nat → Int32} {s t x : Int32} (hS : ShF h b kd f c s t) : SM SR0 MX1_risingPlace d bc bs [.ref b, .int x] h n (Det (.inl (some (.int (nI (rpN f x 0 c))))) h n) := by
  refine sm_of pn_Overwalks_Shelf rfl (Nat.le_of_ble_eq_true rfl) ?_
  refine sw_iconst (pc' := 1) (v := 0) rfl dX1_risingPlace_0 (by decide +kernel) ?_
  refine sw_istore_n (pc' := 2) (lv' := [(2, _), (0, _), (1, _)]) rfl dX1_risingPlace_1 (by decide +kernel) rfl ?_
  exact l_risingPlace hS c 0 (by omega)
theorem l_rises {h : AH} {b kd c d bc bs n : Nat} {f : Nat → Int32} {s t : Int32} (hS : ShF h b kd f c s t) (m : Nat) : ∀ j, j ≤ 12 → (m = 0 ∧ c ≤ j + 1) ∨ j + 1 + m = c → SW SR0 MX1_rises d bc bs 2 [(1, .int (nI (j + 1))), (0, .ref b)] [] h n (Det (.inl (some (.int (bI (riB f (j + 1) m))))) h n) := by
  have hc := hS.2.2.1
  induction m with
  | zero =>
    intro j h12 hj
    refine sw_iload_n (pc' := 3) rfl dX1_rises_2 rfl ?_
    refine sw_aload_n (pc' := 4) rfl dX1_rises_3 rfl ?_
    refine sw_getf (ci := 2) (k := 2) (pc' := 7) rfl dX1_rises_4 (by decide +kernel) w_83 hS.1 rfl ?_
    refine sw_icmp_ge (pc' := 10) (tgt := 35) rfl dX1_rises_7 (by decide +kernel) (fun c7 => ?_) (fun c7 => ?_)
    · refine sw_iconst (pc' := 36) (v := 1) rfl dX1_rises_35 (by decide +kernel) ?_
      refine sw_ret (v := some _) ⟨dX1_rises_36, _, rfl, rfl⟩ ?_
      exact ⟨rfl, rfl, rfl⟩
    · exact absurd (nI_le (by omega) (by omega)) c7
  | succ m ih =>
    intro j h12 hj
    have hj1 : j + 1 < c := by omega
    refine sw_iload_n (pc' := 3) rfl dX1_rises_2 rfl ?_
    refine sw_aload_n (pc' := 4) rfl dX1_rises_3 rfl ?_
    refine sw_getf (ci := 2) (k := 2) (pc' := 7) rfl dX1_rises_4 (by decide +kernel) w_83 hS.1 rfl ?_
    refine sw_icmp_ge (pc' := 10) (tgt := 35) rfl dX1_rises_7 (by decide +kernel) (fun c7 => ?_) (fun c7 => ?_)
    · exact absurd c7 (nI_ge (by omega) (by omega))
    · refine sw_aload_n (pc' := 11) rfl dX1_rises_10 rfl ?_
      refine sw_getf (ci := 2) (k := 1) (pc' := 14) rfl dX1_rises_11 (by decide +kernel) w_82 hS.1 rfl ?_
      refine sw_iload_n (pc' := 15) rfl dX1_rises_14 rfl ?_
      refine sw_iald (pc' := 16) rfl dX1_rises_15 hS.2.1 rfl (by omega) (by decide +kernel) ?_
      refine sw_aload_n (pc' := 17) rfl dX1_rises_16 rfl ?_
      refine sw_getf (ci := 2) (k := 1) (pc' := 20) rfl dX1_rises_17 (by decide +kernel) w_82 hS.1 rfl ?_
      refine sw_iload_n (pc' := 21) rfl dX1_rises_20 rfl ?_
      refine sw_iconst (pc' := 22) (v := 1) rfl dX1_rises_21 (by decide +kernel) ?_
      refine sw_isub (pc' := 23) rfl dX1_rises_22 ?_
      refine sw_iald (pc' := 24) rfl dX1_rises_23 hS.2.1 (nI_pred j) (by omega) (by decide +kernel) ?_
      refine sw_icmp_gt (pc' := 27) (tgt := 29) rfl dX1_rises_24 (by decide +kernel) (fun c24 => ?_) (fun c24 => ?_)
      · refine sw_iinc (pc' := 32) (lv' := [(1, _), (0, _)]) (v := nI (j + 1 + 1)) rfl dX1_rises_29 rfl (nI_succ (j + 1)).symm (by decide +kernel) rfl ?_
        refine sw_goto (tgt := 2) dX1_rises_32 (by decide +kernel) ?_
        have e1 : f (j + 1 - 1) < f (j + 1) := c24
        rw [riB, show decide (f (j + 1 - 1) < f (j + 1)) = true from decide_eq_true e1, Bool.true_and]
        exact ih (j + 1) (by omega) (by omega)
      · refine sw_iconst (pc' := 28) (v := 0) rfl dX1_rises_27 (by decide +kernel) ?_
        refine sw_ret (v := some _) ⟨dX1_rises_28, _, rfl, rfl⟩ ?_
        exact ⟨by rw [riB, show decide (f (j + 1 - 1) < f (j + 1)) = false from decide_eq_false c24]; rfl, rfl, rfl⟩
theorem m_rises {h : AH} {b kd c d bc bs n : Nat} {f : Nat → Int32} {s t : Int32} (hS : ShF h b kd f c s t) : SM SR0 MX1_rises d bc bs [.ref b] h n (Det (.inl (some (.int (bI (riB f 1 (c - 1)))))) h n) := by
  refine sm_of pn_Overwalks_Shelf rfl (Nat.le_of_ble_eq_true rfl) ?_
  refine sw_iconst (pc' := 1) (v := 1) rfl dX1_rises_0 (by decide +kernel) ?_
  refine sw_istore_n (pc' := 2) (lv' := [(1, _), (0, _)]) rfl dX1_rises_1 (by decide +kernel) rfl ?_
  exact l_rises hS (c - 1) 0 (by omega) (by omega)
theorem l_hasEachOnce {h : AH} {b kd c d bc bs n : Nat} {f : Nat → Int32} {s t : Int32} (hS : ShF h b kd f c s t) (hd : 1 ≤ d) (m : Nat) : ∀ j, j + m = c → SW SR0 MX1_hasEachOnce d bc bs 2 [(1, .int (nI j)), (0, .ref b)] [] h n (Det (.inl (some (.int (bI (eoB f c j m))))) h n) := by
  have hc := hS.2.2.1
  induction m with
  | zero =>
    intro j hj
    have hjc : j = c := by omega
    subst hjc
    refine sw_iload_n (pc' := 3) rfl dX1_hasEachOnce_2 rfl ?_
    refine sw_aload_n (pc' := 4) rfl dX1_hasEachOnce_3 rfl ?_
    refine sw_getf (ci := 2) (k := 2) (pc' := 7) rfl dX1_hasEachOnce_4 (by decide +kernel) w_83 hS.1 rfl ?_
    refine sw_icmp_ge (pc' := 10) (tgt := 32) rfl dX1_hasEachOnce_7 (by decide +kernel) (fun c7 => ?_) (fun c7 => ?_)
    · refine sw_iconst (pc' := 33) (v := 1) rfl dX1_hasEachOnce_32 (by decide +kernel) ?_
      refine sw_ret (v := some _) ⟨dX1_hasEachOnce_33, _, rfl, rfl⟩ ?_
      exact ⟨rfl, rfl, rfl⟩
    · exact absurd (Int32.le_refl _) c7
  | succ m ih =>
    intro j hj
    refine sw_iload_n (pc' := 3) rfl dX1_hasEachOnce_2 rfl ?_
    refine sw_aload_n (pc' := 4) rfl dX1_hasEachOnce_3 rfl ?_
    refine sw_getf (ci := 2) (k := 2) (pc' := 7) rfl dX1_hasEachOnce_4 (by decide +kernel) w_83 hS.1 rfl ?_
    refine sw_icmp_ge (pc' := 10) (tgt := 32) rfl dX1_hasEachOnce_7 (by decide +kernel) (fun c7 => ?_) (fun c7 => ?_)
    · exact absurd c7 (nI_ge (by omega) (by omega))
    · refine sw_aload_n (pc' := 11) rfl dX1_hasEachOnce_10 rfl ?_
      refine sw_aload_n (pc' := 12) rfl dX1_hasEachOnce_11 rfl ?_
      refine sw_getf (ci := 2) (k := 1) (pc' := 15) rfl dX1_hasEachOnce_12 (by decide +kernel) w_82 hS.1 rfl ?_
      refine sw_iload_n (pc' := 16) rfl dX1_hasEachOnce_15 rfl ?_
      refine sw_iald (pc' := 17) rfl dX1_hasEachOnce_16 hS.2.1 rfl (by omega) (by decide +kernel) ?_
      refine sw_V (M' := MX1_firstPlace) (d' := d - 1) (bc' := 0) (bs' := 0) (ci := 2) (as := [_]) dX1_hasEachOnce_17 w_247 ok_X1_firstPlace (m_firstPlace hS) hS.1 rfl (by omega) (Nat.le_of_ble_eq_true rfl) (Nat.zero_le _) (Nat.zero_le _) (fun E h' n' _ z => det_x z) (det_k ?_)
      refine sw_iload_n (pc' := 21) rfl dX1_hasEachOnce_20 rfl ?_
      refine sw_icmp_eq (pc' := 24) (tgt := 26) rfl dX1_hasEachOnce_21 (by decide +kernel) (fun c21 => ?_) (fun c21 => ?_)
      · refine sw_iinc (pc' := 29) (lv' := [(1, _), (0, _)]) (v := nI (j + 1)) rfl dX1_hasEachOnce_26 rfl (nI_succ j).symm (by decide +kernel) rfl ?_
        refine sw_goto (tgt := 2) dX1_hasEachOnce_29 (by decide +kernel) ?_
        rw [eoB, show decide (fpN f (f j) 0 c = some j) = true from decide_eq_true (opI_s (fun i e => by have := fpN_at e; omega) (by omega) c21), Bool.true_and]
        exact ih (j + 1) (by omega)
      · refine sw_iconst (pc' := 25) (v := 0) rfl dX1_hasEachOnce_24 (by decide +kernel) ?_
        refine sw_ret (v := some _) ⟨dX1_hasEachOnce_25, _, rfl, rfl⟩ ?_
        exact ⟨by rw [eoB, show decide (fpN f (f j) 0 c = some j) = false from decide_eq_false (fun q => c21 (by rw [q]; rfl))]; rfl, rfl, rfl⟩
theorem m_hasEachOnce {h : AH} {b kd c d bc bs n : Nat} {f : Nat → Int32} {s t : Int32} (hS : ShF h b kd f c s t) (hd : 1 ≤ d) : SM SR0 MX1_hasEachOnce d bc bs [.ref b] h n (Det (.inl (some (.int (bI (eoB f c 0 c))))) h n) := by
  refine sm_of pn_Overwalks_Shelf rfl (Nat.le_of_ble_eq_true rfl) ?_
  refine sw_iconst (pc' := 1) (v := 0) rfl dX1_hasEachOnce_0 (by decide +kernel) ?_
  refine sw_istore_n (pc' := 2) (lv' := [(1, _), (0, _)]) rfl dX1_hasEachOnce_1 (by decide +kernel) rfl ?_
  exact l_hasEachOnce hS hd c 0 (by omega)
