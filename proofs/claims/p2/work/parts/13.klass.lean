section
/-! 13.shelf -/
/-! Shelf: its picture, its methods that read -/
/-- at b a Shelf of kind kd, c things lie on it, f in its array at b + 1 -/
def ShF (h : AH) (b kd : Nat) (f : Nat → Int32) (c : Nat) (s t : Int32) : Prop := h b = .inr (2, [.ref kd, .ref (b + 1), .int (nI c), .int s, .int t]) ∧ h (b + 1) = .inl (0, 12, .inl f) ∧ c ≤ 12 ∧ nC ≤ b
def bI (b : Bool) : Int32 := if b then 1 else 0
theorem bI_0 {b : Bool} (h : bI b = 0) : b = false := by cases b <;> simp_all [bI]
theorem bI_1 {b : Bool} (h : ¬ bI b = 0) : b = true := by cases b <;> simp_all [bI]
theorem bI_i {b : Bool} : narrow .boolean (.int (bI b)) = .int (bI b) := by cases b <;> rfl
def kP (k : Nat) : Bool := decide (k = 1)
def kN (k : Nat) : Bool := decide (k = 1) || decide (k = 3)
def kE (k : Nat) : Bool := decide (k = 2) || decide (k = 3)
/-- the Kind k -/
def KdF (h : AH) (k : Nat) : Prop := (1 ≤ k ∧ k ≤ 5) ∧ h k = .inr (7, [.int (bI (kP k)), .int (bI (kN k)), .int (bI (kE k))])
/-- the first place of x from j on, among m places -/
def fpN (f : Nat → Int32) (x : Int32) : Nat → Nat → Option Nat
  | _, 0 => none
  | j, m + 1 => if f j = x then some j else fpN f x (j + 1) m
/-- the last of the first m places -/
def lpN (f : Nat → Int32) (x : Int32) : Nat → Option Nat
  | 0 => none
  | m + 1 => if f m = x then some m else lpN f x m
def coN (f : Nat → Int32) (x : Int32) : Nat → Nat → Nat
  | _, 0 => 0
  | j, m + 1 => (if f j = x then 1 else 0) + coN f x (j + 1) m
def rpN (f : Nat → Int32) (x : Int32) : Nat → Nat → Nat
  | j, 0 => j
  | j, m + 1 => if f j < x then rpN f x (j + 1) m else j
/-- does it rise from place j on, m places -/
def riB (f : Nat → Int32) : Nat → Nat → Bool
  | _, 0 => true
  | j, m + 1 => decide (f (j - 1) < f j) && riB f (j + 1) m
def eoB (f : Nat → Int32) (c : Nat) : Nat → Nat → Bool
  | _, 0 => true
  | j, m + 1 => decide (fpN f (f j) 0 c = some j) && eoB f c (j + 1) m
def opI (o : Option Nat) : Int32 := match o with
  | some j => nI j
  | none => -1
def taI (f : Nat → Int32) (c : Nat) (x : Int32) : Int32 := if ¬ x < 0 ∧ ¬ nI c ≤ x then f x.toNatClampNeg else -1
theorem fpN_at {f : Nat → Int32} {x : Int32} {m : Nat} : ∀ {j i : Nat}, fpN f x j m = some i → j ≤ i ∧ i < j + m ∧ f i = x := by
  induction m with
  | zero => intro j i h; cases h
  | succ m ih =>
    intro j i h
    unfold fpN at h
    split at h
    · next q => cases h; exact ⟨by omega, by omega, q⟩
    · have := ih h; exact ⟨by omega, by omega, this.2.2⟩
theorem rpN_at {f : Nat → Int32} {x : Int32} {m : Nat} : ∀ {j : Nat}, j ≤ rpN f x j m ∧ rpN f x j m ≤ j + m := by
  induction m with
  | zero => intro j; exact ⟨Nat.le_refl _, Nat.le_refl _⟩
  | succ m ih =>
    intro j
    unfold rpN
    split
    · have := @ih (j + 1); omega
    · omega
theorem i_m1 (x : Int32) : x + Int32.ofInt (-1) = x - 1 := (Int32.sub_eq_add_neg x 1).symm
theorem opI_n {o : Option Nat} (h : ∀ j, o = some j → j < 2 ^ 31) (g : opI o = -1) : o = none := by
  cases o with
  | none => rfl
  | some j => exact absurd (show nI j < 0 from (show nI j = -1 from g) ▸ (by decide +kernel)) (nI_pos (h j rfl))
theorem opI_s {o : Option Nat} {j : Nat} (h : ∀ i, o = some i → i < 2 ^ 31) (hj : j < 2 ^ 31) (g : opI o = nI j) : o = some j := by
  cases o with
  | none => exact absurd (show nI j < 0 from (show -1 = nI j from g) ▸ (by decide +kernel)) (nI_pos hj)
  | some i => exact congrArg some ((nI_eq (h i rfl) hj).mp g)
theorem m_isOfTable {h : AH} {b kd c d bc bs n : Nat} {f : Nat → Int32} {s t : Int32} (hS : ShF h b kd f c s t) (hk : 1 ≤ kd ∧ kd ≤ 5) : SM SR0 MX1_isOfTable d bc bs [.ref b] h n (Det (.inl (some (.int (bI (decide (kd = 5)))))) h n) := by
  refine sm_of pn_Overwalks_Shelf rfl (Nat.le_of_ble_eq_true rfl) ?_
  refine sw_aload_n (pc' := 1) rfl dX1_isOfTable_0 rfl ?_
  refine sw_getf (ci := 2) (k := 0) (pc' := 4) rfl dX1_isOfTable_1 (by decide +kernel) w_80 hS.1 rfl ?_
  refine sw_gets (pc' := 7) rfl dX1_isOfTable_4 (v := .ref 5) (by decide +kernel) w_434 ?_
  refine sw_acmp (pc' := 10) (tgt := 14) rfl dX1_isOfTable_7 (by decide +kernel) hk (by decide +kernel) (fun c7 => ?_) (fun c7 => ?_)
  · refine sw_iconst (pc' := 15) (v := 0) rfl dX1_isOfTable_14 (by decide +kernel) ?_
    refine sw_ret (v := some _) ⟨dX1_isOfTable_15, _, rfl, rfl⟩ ?_
    exact ⟨by simp_all [bI], rfl, rfl⟩
  · refine sw_iconst (pc' := 11) (v := 1) rfl dX1_isOfTable_10 (by decide +kernel) ?_
    refine sw_goto (tgt := 15) dX1_isOfTable_11 (by decide +kernel) ?_
    refine sw_ret (v := some _) ⟨dX1_isOfTable_15, _, rfl, rfl⟩ ?_
    exact ⟨by simp_all [bI], rfl, rfl⟩
theorem m_takesIn {h : AH} {b kd c d bc bs n : Nat} {f : Nat → Int32} {s t x : Int32} (hS : ShF h b kd f c s t) (hK : KdF h kd) : SM SR0 MX1_takesIn d bc bs [.ref b, .int x] h n (Det (.inl (some (.int (bI (decide (x ≠ 100) || kN kd))))) h n) := by
  refine sm_of pn_Overwalks_Shelf rfl (Nat.le_of_ble_eq_true rfl) ?_
  refine sw_iload_n (pc' := 1) rfl dX1_takesIn_0 rfl ?_
  refine sw_bipush (pc' := 3) (v := 100) rfl dX1_takesIn_1 (by decide +kernel) ?_
  refine sw_icmp_ne (pc' := 6) (tgt := 16) rfl dX1_takesIn_3 (by decide +kernel) (fun c3 => ?_) (fun c3 => ?_)
  · refine sw_iconst (pc' := 17) (v := 1) rfl dX1_takesIn_16 (by decide +kernel) ?_
    refine sw_goto (tgt := 21) dX1_takesIn_17 (by decide +kernel) ?_
    refine sw_ret (v := some _) ⟨dX1_takesIn_21, _, rfl, rfl⟩ ?_
    exact ⟨by rw [show decide (x ≠ 100) = true from decide_eq_true c3]; rfl, rfl, rfl⟩
  · refine sw_aload_n (pc' := 7) rfl dX1_takesIn_6 rfl ?_
    refine sw_getf (ci := 2) (k := 0) (pc' := 10) rfl dX1_takesIn_7 (by decide +kernel) w_80 hS.1 rfl ?_
    refine sw_getf (ci := 7) (k := 1) (pc' := 13) rfl dX1_takesIn_10 (by decide +kernel) w_1495 hK.2 rfl ?_
    refine sw_if_eq (pc' := 16) (tgt := 20) rfl dX1_takesIn_13 (by decide +kernel) (fun c13 => ?_) (fun c13 => ?_)
    · refine sw_iconst (pc' := 21) (v := 0) rfl dX1_takesIn_20 (by decide +kernel) ?_
      refine sw_ret (v := some _) ⟨dX1_takesIn_21, _, rfl, rfl⟩ ?_
      exact ⟨by rw [bI_0 c13, show decide (x ≠ 100) = false from decide_eq_false (fun q => q c3)]; rfl, rfl, rfl⟩
    · refine sw_iconst (pc' := 17) (v := 1) rfl dX1_takesIn_16 (by decide +kernel) ?_
      refine sw_goto (tgt := 21) dX1_takesIn_17 (by decide +kernel) ?_
      refine sw_ret (v := some _) ⟨dX1_takesIn_21, _, rfl, rfl⟩ ?_
      exact ⟨by rw [bI_1 c13, Bool.or_true]; rfl, rfl, rfl⟩
theorem m_thingAt {h : AH} {b kd c d bc bs n : Nat} {f : Nat → Int32} {s t x : Int32} (hS : ShF h b kd f c s t) : SM SR0 MX1_thingAt d bc bs [.ref b, .int x] h n (Det (.inl (some (.int (taI f c x)))) h n) := by
  refine sm_of pn_Overwalks_Shelf rfl (Nat.le_of_ble_eq_true rfl) ?_
  refine sw_iload_n (pc' := 1) rfl dX1_thingAt_0 rfl ?_
  refine sw_if_lt (pc' := 4) (tgt := 21) rfl dX1_thingAt_1 (by decide +kernel) (fun c1 => ?_) (fun c1 => ?_)
  · refine sw_iconst (pc' := 22) (v := (-1)) rfl dX1_thingAt_21 (by decide +kernel) ?_
    refine sw_ret (v := some _) ⟨dX1_thingAt_22, _, rfl, rfl⟩ ?_
    exact ⟨by rw [taI, if_neg (fun q => q.1 c1)], rfl, rfl⟩
  · refine sw_iload_n (pc' := 5) rfl dX1_thingAt_4 rfl ?_
    refine sw_aload_n (pc' := 6) rfl dX1_thingAt_5 rfl ?_
    refine sw_getf (ci := 2) (k := 2) (pc' := 9) rfl dX1_thingAt_6 (by decide +kernel) w_83 hS.1 rfl ?_
    refine sw_icmp_ge (pc' := 12) (tgt := 21) rfl dX1_thingAt_9 (by decide +kernel) (fun c9 => ?_) (fun c9 => ?_)
    · refine sw_iconst (pc' := 22) (v := (-1)) rfl dX1_thingAt_21 (by decide +kernel) ?_
      refine sw_ret (v := some _) ⟨dX1_thingAt_22, _, rfl, rfl⟩ ?_
      exact ⟨by rw [taI, if_neg (fun q => q.2 c9)], rfl, rfl⟩
    · obtain ⟨j, hj, rfl⟩ := nI_of c1
      have hc := hS.2.2.1
      have hjc : j < c := Nat.lt_of_not_le (fun q => c9 ((nI_leI (by omega) hj).mpr q))
      refine sw_aload_n (pc' := 13) rfl dX1_thingAt_12 rfl ?_
      refine sw_getf (ci := 2) (k := 1) (pc' := 16) rfl dX1_thingAt_13 (by decide +kernel) w_82 hS.1 rfl ?_
      refine sw_iload_n (pc' := 17) rfl dX1_thingAt_16 rfl ?_
      refine sw_iald (pc' := 18) rfl dX1_thingAt_17 hS.2.1 rfl (by omega) (by decide +kernel) ?_
      refine sw_goto (tgt := 22) dX1_thingAt_18 (by decide +kernel) ?_
      refine sw_ret (v := some _) ⟨dX1_thingAt_22, _, rfl, rfl⟩ ?_
      exact ⟨by rw [taI, if_pos ⟨c1, c9⟩, nI_clamp hj], rfl, rfl⟩
theorem l_firstPlace {h : AH} {b kd c d bc bs n : Nat} {f : Nat → Int32} {s t x : Int32} (hS : ShF h b kd f c s t) (m : Nat) : ∀ j, j + m = c → SW SR0 MX1_firstPlace d bc bs 2 [(2, .int (nI j)), (0, .ref b), (1, .int x)] [] h n (Det (.inl (some (.int (opI (fpN f x j m))))) h n) := by
  have hc := hS.2.2.1
  induction m with
  | zero =>
    intro j hj
    have hjc : j = c := by omega
    subst hjc
    refine sw_iload_n (pc' := 3) rfl dX1_firstPlace_2 rfl ?_
    refine sw_aload_n (pc' := 4) rfl dX1_firstPlace_3 rfl ?_
    refine sw_getf (ci := 2) (k := 2) (pc' := 7) rfl dX1_firstPlace_4 (by decide +kernel) w_83 hS.1 rfl ?_
    refine sw_icmp_ge (pc' := 10) (tgt := 28) rfl dX1_firstPlace_7 (by decide +kernel) (fun c7 => ?_) (fun c7 => ?_)
    · refine sw_iconst (pc' := 29) (v := (-1)) rfl dX1_firstPlace_28 (by decide +kernel) ?_
      refine sw_ret (v := some _) ⟨dX1_firstPlace_29, _, rfl, rfl⟩ ?_
      exact ⟨rfl, rfl, rfl⟩
    · exact absurd (Int32.le_refl _) c7
  | succ m ih =>
    intro j hj
    refine sw_iload_n (pc' := 3) rfl dX1_firstPlace_2 rfl ?_
    refine sw_aload_n (pc' := 4) rfl dX1_firstPlace_3 rfl ?_
    refine sw_getf (ci := 2) (k := 2) (pc' := 7) rfl dX1_firstPlace_4 (by decide +kernel) w_83 hS.1 rfl ?_
    refine sw_icmp_ge (pc' := 10) (tgt := 28) rfl dX1_firstPlace_7 (by decide +kernel) (fun c7 => ?_) (fun c7 => ?_)
    · exact absurd c7 (nI_ge (by omega) (by omega))
    · refine sw_aload_n (pc' := 11) rfl dX1_firstPlace_10 rfl ?_
      refine sw_getf (ci := 2) (k := 1) (pc' := 14) rfl dX1_firstPlace_11 (by decide +kernel) w_82 hS.1 rfl ?_
      refine sw_iload_n (pc' := 15) rfl dX1_firstPlace_14 rfl ?_
      refine sw_iald (pc' := 16) rfl dX1_firstPlace_15 hS.2.1 rfl (by omega) (by decide +kernel) ?_
      refine sw_iload_n (pc' := 17) rfl dX1_firstPlace_16 rfl ?_
      refine sw_icmp_ne (pc' := 20) (tgt := 22) rfl dX1_firstPlace_17 (by decide +kernel) (fun c17 => ?_) (fun c17 => ?_)
      · refine sw_iinc (pc' := 25) (lv' := [(2, _), (0, _), (1, _)]) (v := nI (j + 1)) rfl dX1_firstPlace_22 rfl (nI_succ j).symm (by decide +kernel) rfl ?_
        refine sw_goto (tgt := 2) dX1_firstPlace_25 (by decide +kernel) ?_
        rw [fpN, if_neg c17]
        exact ih (j + 1) (by omega)
      · refine sw_iload_n (pc' := 21) rfl dX1_firstPlace_20 rfl ?_
        refine sw_ret (v := some _) ⟨dX1_firstPlace_21, _, rfl, rfl⟩ ?_
        exact ⟨by rw [fpN, if_pos c17]; rfl, rfl, rfl⟩
theorem m_firstPlace {h : AH} {b kd c d bc bs n : Nat} {f : Nat → Int32} {s t x : Int32} (hS : ShF h b kd f c s t) : SM SR0 MX1_firstPlace d bc bs [.ref b, .int x] h n (Det (.inl (some (.int (opI (fpN f x 0 c))))) h n) := by
  refine sm_of pn_Overwalks_Shelf rfl (Nat.le_of_ble_eq_true rfl) ?_
  refine sw_iconst (pc' := 1) (v := 0) rfl dX1_firstPlace_0 (by decide +kernel) ?_
  refine sw_istore_n (pc' := 2) (lv' := [(2, _), (0, _), (1, _)]) rfl dX1_firstPlace_1 (by decide +kernel) rfl ?_
  exact l_firstPlace hS c 0 (by omega)
theorem l_lastPlace {h : AH} {b kd c d bc bs n : Nat} {f : Nat → Int32} {s t x : Int32} (hS : ShF h b kd f c s t) (m : Nat) : m ≤ c → SW SR0 MX1_lastPlace d bc bs 7 [(2, .int (nI m - 1)), (0, .ref b), (1, .int x)] [] h n (Det (.inl (some (.int (opI (lpN f x m))))) h n) := by
  have hc := hS.2.2.1
  induction m with
  | zero =>
    intro hj
    refine sw_iload_n (pc' := 8) rfl dX1_lastPlace_7 rfl ?_
    refine sw_if_lt (pc' := 11) (tgt := 29) rfl dX1_lastPlace_8 (by decide +kernel) (fun c8 => ?_) (fun c8 => ?_)
    · refine sw_iconst (pc' := 30) (v := (-1)) rfl dX1_lastPlace_29 (by decide +kernel) ?_
      refine sw_ret (v := some _) ⟨dX1_lastPlace_30, _, rfl, rfl⟩ ?_
      exact ⟨rfl, rfl, rfl⟩
    · exact absurd (by decide +kernel) c8
  | succ m ih =>
    intro hj
    rw [nI_pred]
    refine sw_iload_n (pc' := 8) rfl dX1_lastPlace_7 rfl ?_
    refine sw_if_lt (pc' := 11) (tgt := 29) rfl dX1_lastPlace_8 (by decide +kernel) (fun c8 => ?_) (fun c8 => ?_)
    · exact absurd c8 (nI_pos (by omega))
    · refine sw_aload_n (pc' := 12) rfl dX1_lastPlace_11 rfl ?_
      refine sw_getf (ci := 2) (k := 1) (pc' := 15) rfl dX1_lastPlace_12 (by decide +kernel) w_82 hS.1 rfl ?_
      refine sw_iload_n (pc' := 16) rfl dX1_lastPlace_15 rfl ?_
      refine sw_iald (pc' := 17) rfl dX1_lastPlace_16 hS.2.1 rfl (by omega) (by decide +kernel) ?_
      refine sw_iload_n (pc' := 18) rfl dX1_lastPlace_17 rfl ?_
      refine sw_icmp_ne (pc' := 21) (tgt := 23) rfl dX1_lastPlace_18 (by decide +kernel) (fun c18 => ?_) (fun c18 => ?_)
      · refine sw_iinc (pc' := 26) (lv' := [(2, _), (0, _), (1, _)]) (v := nI m - 1) rfl dX1_lastPlace_23 rfl (i_m1 _) (by decide +kernel) rfl ?_
        refine sw_goto (tgt := 7) dX1_lastPlace_26 (by decide +kernel) ?_
        rw [lpN, if_neg c18]
        exact ih (by omega)
      · refine sw_iload_n (pc' := 22) rfl dX1_lastPlace_21 rfl ?_
        refine sw_ret (v := some _) ⟨dX1_lastPlace_22, _, rfl, rfl⟩ ?_
        exact ⟨by rw [lpN, if_pos c18]; rfl, rfl, rfl⟩
theorem m_lastPlace {h : AH} {b kd c d bc bs n : Nat} {f : Nat → Int32} {s t x : Int32} (hS : ShF h b kd f c s t) : SM SR0 MX1_lastPlace d bc bs [.ref b, .int x] h n (Det (.inl (some (.int (opI (lpN f x c))))) h n) := by
  refine sm_of pn_Overwalks_Shelf rfl (Nat.le_of_ble_eq_true rfl) ?_
  refine sw_aload_n (pc' := 1) rfl dX1_lastPlace_0 rfl ?_
  refine sw_getf (ci := 2) (k := 2) (pc' := 4) rfl dX1_lastPlace_1 (by decide +kernel) w_83 hS.1 rfl ?_
  refine sw_iconst (pc' := 5) (v := 1) rfl dX1_lastPlace_4 (by decide +kernel) ?_
  refine sw_isub (pc' := 6) rfl dX1_lastPlace_5 ?_
  refine sw_istore_n (pc' := 7) (lv' := [(2, _), (0, _), (1, _)]) rfl dX1_lastPlace_6 (by decide +kernel) rfl ?_
  exact l_lastPlace hS c (Nat.le_refl _)
theorem m_holds {h : AH} {b kd c d bc bs n : Nat} {f : Nat → Int32} {s t x : Int32} (hS : ShF h b kd f c s t) (hd : 1 ≤ d) : SM SR0 MX1_holds d bc bs [.ref b, .int x] h n (Det (.inl (some (.int (bI (fpN f x 0 c).isSome)))) h n) := by
  have hc := hS.2.2.1
  refine sm_of pn_Overwalks_Shelf rfl (Nat.le_of_ble_eq_true rfl) ?_
  refine sw_aload_n (pc' := 1) rfl dX1_holds_0 rfl ?_
  refine sw_iload_n (pc' := 2) rfl dX1_holds_1 rfl ?_
  refine sw_V (M' := MX1_firstPlace) (d' := d - 1) (bc' := 0) (bs' := 0) (ci := 2) (as := [_]) dX1_holds_2 w_247 ok_X1_firstPlace (m_firstPlace hS) hS.1 rfl (by omega) (Nat.le_of_ble_eq_true rfl) (Nat.zero_le _) (Nat.zero_le _) (fun E h' n' _ z => det_x z) (det_k ?_)
  refine sw_iconst (pc' := 6) (v := (-1)) rfl dX1_holds_5 (by decide +kernel) ?_
  refine sw_icmp_eq (pc' := 9) (tgt := 13) rfl dX1_holds_6 (by decide +kernel) (fun c6 => ?_) (fun c6 => ?_)
  · refine sw_iconst (pc' := 14) (v := 0) rfl dX1_holds_13 (by decide +kernel) ?_
    refine sw_ret (v := some _) ⟨dX1_holds_14, _, rfl, rfl⟩ ?_
    rw [opI_n (fun j e => by have := fpN_at e; omega) c6]
    exact ⟨rfl, rfl, rfl⟩
  · refine sw_iconst (pc' := 10) (v := 1) rfl dX1_holds_9 (by decide +kernel) ?_
    refine sw_goto (tgt := 14) dX1_holds_10 (by decide +kernel) ?_
    refine sw_ret (v := some _) ⟨dX1_holds_14, _, rfl, rfl⟩ ?_
    have g : (fpN f x 0 c).isSome = true := by
      cases e : fpN f x 0 c with
      | none => rw [e] at c6; exact absurd rfl c6
      | some j => rfl
    rw [g]
    exact ⟨rfl, rfl, rfl⟩
theorem l_countOf {h : AH} {b kd c d bc bs n : Nat} {f : Nat → Int32} {s t x : Int32} (hS : ShF h b kd f c s t) (m : Nat) : ∀ j a, j + m = c → SW SR0 MX1_countOf d bc bs 4 [(3, .int (nI j)), (2, .int (nI a)), (0, .ref b), (1, .int x)] [] h n (Det (.inl (some (.int (nI (a + coN f x j m))))) h n) := by
  have hc := hS.2.2.1
  induction m with
  | zero =>
    intro j a hj
    have hjc : j = c := by omega
    subst hjc
    refine sw_iload_n (pc' := 5) rfl dX1_countOf_4 rfl ?_
    refine sw_aload_n (pc' := 6) rfl dX1_countOf_5 rfl ?_
    refine sw_getf (ci := 2) (k := 2) (pc' := 9) rfl dX1_countOf_6 (by decide +kernel) w_83 hS.1 rfl ?_
    refine sw_icmp_ge (pc' := 12) (tgt := 31) rfl dX1_countOf_9 (by decide +kernel) (fun c9 => ?_) (fun c9 => ?_)
    · refine sw_iload_n (pc' := 32) rfl dX1_countOf_31 rfl ?_
      refine sw_ret (v := some _) ⟨dX1_countOf_32, _, rfl, rfl⟩ ?_
      exact ⟨rfl, rfl, rfl⟩
    · exact absurd (Int32.le_refl _) c9
  | succ m ih =>
    intro j a hj
    refine sw_iload_n (pc' := 5) rfl dX1_countOf_4 rfl ?_
    refine sw_aload_n (pc' := 6) rfl dX1_countOf_5 rfl ?_
    refine sw_getf (ci := 2) (k := 2) (pc' := 9) rfl dX1_countOf_6 (by decide +kernel) w_83 hS.1 rfl ?_
    refine sw_icmp_ge (pc' := 12) (tgt := 31) rfl dX1_countOf_9 (by decide +kernel) (fun c9 => ?_) (fun c9 => ?_)
    · exact absurd c9 (nI_ge (by omega) (by omega))
    · refine sw_aload_n (pc' := 13) rfl dX1_countOf_12 rfl ?_
      refine sw_getf (ci := 2) (k := 1) (pc' := 16) rfl dX1_countOf_13 (by decide +kernel) w_82 hS.1 rfl ?_
      refine sw_iload_n (pc' := 17) rfl dX1_countOf_16 rfl ?_
      refine sw_iald (pc' := 18) rfl dX1_countOf_17 hS.2.1 rfl (by omega) (by decide +kernel) ?_
      refine sw_iload_n (pc' := 19) rfl dX1_countOf_18 rfl ?_
      refine sw_icmp_ne (pc' := 22) (tgt := 25) rfl dX1_countOf_19 (by decide +kernel) (fun c19 => ?_) (fun c19 => ?_)
      · refine sw_iinc (pc' := 28) (lv' := [(3, _), (2, _), (0, _), (1, _)]) (v := nI (j + 1)) rfl dX1_countOf_25 rfl (nI_succ j).symm (by decide +kernel) rfl ?_
        refine sw_goto (tgt := 4) dX1_countOf_28 (by decide +kernel) ?_
        rw [coN, if_neg c19, Nat.zero_add]
        exact ih (j + 1) a (by omega)
      · refine sw_iinc (pc' := 25) (lv' := [(2, _), (3, _), (0, _), (1, _)]) (v := nI (a + 1)) rfl dX1_countOf_22 rfl (nI_succ a).symm (by decide +kernel) rfl ?_
        refine sw_iinc (pc' := 28) (lv' := [(3, _), (2, _), (0, _), (1, _)]) (v := nI (j + 1)) rfl dX1_countOf_25 rfl (nI_succ j).symm (by decide +kernel) rfl ?_
        refine sw_goto (tgt := 4) dX1_countOf_28 (by decide +kernel) ?_
        rw [coN, if_pos c19, ← Nat.add_assoc]
        exact ih (j + 1) (a + 1) (by omega)
theorem m_countOf {h : AH} {b kd c d bc bs n : Nat} {f : Nat → Int32} {s t x : Int32} (hS : ShF h b kd f c s t) : SM SR0 MX1_countOf d bc bs [.ref b, .int x] h n (Det (.inl (some (.int (nI (coN f x 0 c))))) h n) := by
  refine sm_of pn_Overwalks_Shelf rfl (Nat.le_of_ble_eq_true rfl) ?_
  refine sw_iconst (pc' := 1) (v := 0) rfl dX1_countOf_0 (by decide +kernel) ?_
  refine sw_istore_n (pc' := 2) (lv' := [(2, _), (0, _), (1, _)]) rfl dX1_countOf_1 (by decide +kernel) rfl ?_
  refine sw_iconst (pc' := 3) (v := 0) rfl dX1_countOf_2 (by decide +kernel) ?_
  refine sw_istore_n (pc' := 4) (lv' := [(3, _), (2, _), (0, _), (1, _)]) rfl dX1_countOf_3 (by decide +kernel) rfl ?_
  have k := l_countOf (d := d) (bc := bc) (bs := bs) (n := n) (x := x) hS c 0 0 (by omega)
  rw [Nat.zero_add] at k
  exact k
theorem l_risingPlace {h : AH} {b kd c d bc bs n : Nat} {f : Nat → Int32} {s t x : Int32} (hS : ShF h b kd f c s t) (m : Nat) : ∀ j, j + m = c → SW SR0 MX1_risingPlace d bc bs 2 [(2, .int (nI j)), (0, .ref b), (1, .int x)] [] h n (Det (.inl (some (.int (nI (rpN f x j m))))) h n) := by
  have hc := hS.2.2.1
  induction m with
  | zero =>
    intro j hj
    have hjc : j = c := by omega
    subst hjc
    refine sw_iload_n (pc' := 3) rfl dX1_risingPlace_2 rfl ?_
    refine sw_aload_n (pc' := 4) rfl dX1_risingPlace_3 rfl ?_
    refine sw_getf (ci := 2) (k := 2) (pc' := 7) rfl dX1_risingPlace_4 (by decide +kernel) w_83 hS.1 rfl ?_
    refine sw_icmp_ge (pc' := 10) (tgt := 26) rfl dX1_risingPlace_7 (by decide +kernel) (fun c7 => ?_) (fun c7 => ?_)
    · refine sw_iload_n (pc' := 27) rfl dX1_risingPlace_26 rfl ?_
      refine sw_ret (v := some _) ⟨dX1_risingPlace_27, _, rfl, rfl⟩ ?_
      exact ⟨rfl, rfl, rfl⟩
    · exact absurd (Int32.le_refl _) c7
  | succ m ih =>
    intro j hj
    refine sw_iload_n (pc' := 3) rfl dX1_risingPlace_2 rfl ?_
    refine sw_aload_n (pc' := 4) rfl dX1_risingPlace_3 rfl ?_
    refine sw_getf (ci := 2) (k := 2) (pc' := 7) rfl dX1_risingPlace_4 (by decide +kernel) w_83 hS.1 rfl ?_
    refine sw_icmp_ge (pc' := 10) (tgt := 26) rfl dX1_risingPlace_7 (by decide +kernel) (fun c7 => ?_) (fun c7 => ?_)
    · exact absurd c7 (nI_ge (by omega) (by omega))
    · refine sw_aload_n (pc' := 11) rfl dX1_risingPlace_10 rfl ?_
      refine sw_getf (ci := 2) (k := 1) (pc' := 14) rfl dX1_risingPlace_11 (by decide +kernel) w_82 hS.1 rfl ?_
      refine sw_iload_n (pc' := 15) rfl dX1_risingPlace_14 rfl ?_
      refine sw_iald (pc' := 16) rfl dX1_risingPlace_15 hS.2.1 rfl (by omega) (by decide +kernel) ?_
      refine sw_iload_n (pc' := 17) rfl dX1_risingPlace_16 rfl ?_
      refine sw_icmp_ge (pc' := 20) (tgt := 26) rfl dX1_risingPlace_17 (by decide +kernel) (fun c17 => ?_) (fun c17 => ?_)
      · refine sw_iload_n (pc' := 27) rfl dX1_risingPlace_26 rfl ?_
        refine sw_ret (v := some _) ⟨dX1_risingPlace_27, _, rfl, rfl⟩ ?_
        exact ⟨by rw [rpN, if_neg (Int32.not_lt.mpr c17)], rfl, rfl⟩
      · refine sw_iinc (pc' := 23) (lv' := [(2, _), (0, _), (1, _)]) (v := nI (j + 1)) rfl dX1_risingPlace_20 rfl (nI_succ j).symm (by decide +kernel) rfl ?_
        refine sw_goto (tgt := 2) dX1_risingPlace_23 (by decide +kernel) ?_
        rw [rpN, if_pos (Int32.not_le.mp c17)]
        exact ih (j + 1) (by omega)
theorem m_risingPlace {h : AH} {b kd c d bc bs n : Nat} {f : Nat → Int32} {s t x : Int32} (hS : ShF h b kd f c s t) : SM SR0 MX1_risingPlace d bc bs [.ref b, .int x] h n (Det (.inl (some (.int (nI (rpN f x 0 c))))) h n) := by
  refine sm_of pn_Overwalks_Shelf rfl (Nat.le_of_ble_eq_true rfl) ?_
  refine sw_iconst (pc' := 1) (v := 0) rfl dX1_risingPlace_0 (by decide +kernel) ?_
  refine sw_istore_n (pc' := 2) (lv' := [(2, _), (0, _), (1, _)]) rfl dX1_risingPlace_1 (by decide +kernel) rfl ?_
  exact l_risingPlace hS c 0 (by omega)
theorem l_rises {h : AH} {b kd c d bc bs n : Nat} {f : Nat → Int32} {s t : Int32} (hS : ShF h b kd f c s t) (m : Nat) : ∀ j, j ≤ 12 → (m = 0 ∧ c ≤ j + 1) ∨ j + 1 + m = c → SW SR0 MX1_rises d bc bs 2 [(1, .int (nI (j + 1))), (0, .ref b)] [] h n (Det (.inl (some (.int (bI (riB f (j + 1) m))))) h n) := by
  have hc := hS.2.2.1
  induction m with
  | zero =>
    intro j h12 hj
    refine sw_iload_n (pc' := 3) rfl dX1_rises_2 rfl ?_
    refine sw_aload_n (pc' := 4) rfl dX1_rises_3 rfl ?_
    refine sw_getf (ci := 2) (k := 2) (pc' := 7) rfl dX1_rises_4 (by decide +kernel) w_83 hS.1 rfl ?_
    refine sw_icmp_ge (pc' := 10) (tgt := 35) rfl dX1_rises_7 (by decide +kernel) (fun c7 => ?_) (fun c7 => ?_)
    · refine sw_iconst (pc' := 36) (v := 1) rfl dX1_rises_35 (by decide +kernel) ?_
      refine sw_ret (v := some _) ⟨dX1_rises_36, _, rfl, rfl⟩ ?_
      exact ⟨rfl, rfl, rfl⟩
    · exact absurd (nI_le (by omega) (by omega)) c7
  | succ m ih =>
    intro j h12 hj
    have hj1 : j + 1 < c := by omega
    refine sw_iload_n (pc' := 3) rfl dX1_rises_2 rfl ?_
    refine sw_aload_n (pc' := 4) rfl dX1_rises_3 rfl ?_
    refine sw_getf (ci := 2) (k := 2) (pc' := 7) rfl dX1_rises_4 (by decide +kernel) w_83 hS.1 rfl ?_
    refine sw_icmp_ge (pc' := 10) (tgt := 35) rfl dX1_rises_7 (by decide +kernel) (fun c7 => ?_) (fun c7 => ?_)
    · exact absurd c7 (nI_ge (by omega) (by omega))
    · refine sw_aload_n (pc' := 11) rfl dX1_rises_10 rfl ?_
      refine sw_getf (ci := 2) (k := 1) (pc' := 14) rfl dX1_rises_11 (by decide +kernel) w_82 hS.1 rfl ?_
      refine sw_iload_n (pc' := 15) rfl dX1_rises_14 rfl ?_
      refine sw_iald (pc' := 16) rfl dX1_rises_15 hS.2.1 rfl (by omega) (by decide +kernel) ?_
      refine sw_aload_n (pc' := 17) rfl dX1_rises_16 rfl ?_
      refine sw_getf (ci := 2) (k := 1) (pc' := 20) rfl dX1_rises_17 (by decide +kernel) w_82 hS.1 rfl ?_
      refine sw_iload_n (pc' := 21) rfl dX1_rises_20 rfl ?_
      refine sw_iconst (pc' := 22) (v := 1) rfl dX1_rises_21 (by decide +kernel) ?_
      refine sw_isub (pc' := 23) rfl dX1_rises_22 ?_
      refine sw_iald (pc' := 24) rfl dX1_rises_23 hS.2.1 (nI_pred j) (by omega) (by decide +kernel) ?_
      refine sw_icmp_gt (pc' := 27) (tgt := 29) rfl dX1_rises_24 (by decide +kernel) (fun c24 => ?_) (fun c24 => ?_)
      · refine sw_iinc (pc' := 32) (lv' := [(1, _), (0, _)]) (v := nI (j + 1 + 1)) rfl dX1_rises_29 rfl (nI_succ (j + 1)).symm (by decide +kernel) rfl ?_
        refine sw_goto (tgt := 2) dX1_rises_32 (by decide +kernel) ?_
        have e1 : f (j + 1 - 1) < f (j + 1) := c24
        rw [riB, show decide (f (j + 1 - 1) < f (j + 1)) = true from decide_eq_true e1, Bool.true_and]
        exact ih (j + 1) (by omega) (by omega)
      · refine sw_iconst (pc' := 28) (v := 0) rfl dX1_rises_27 (by decide +kernel) ?_
        refine sw_ret (v := some _) ⟨dX1_rises_28, _, rfl, rfl⟩ ?_
        exact ⟨by rw [riB, show decide (f (j + 1 - 1) < f (j + 1)) = false from decide_eq_false c24]; rfl, rfl, rfl⟩
theorem m_rises {h : AH} {b kd c d bc bs n : Nat} {f : Nat → Int32} {s t : Int32} (hS : ShF h b kd f c s t) : SM SR0 MX1_rises d bc bs [.ref b] h n (Det (.inl (some (.int (bI (riB f 1 (c - 1)))))) h n) := by
  refine sm_of pn_Overwalks_Shelf rfl (Nat.le_of_ble_eq_true rfl) ?_
  refine sw_iconst (pc' := 1) (v := 1) rfl dX1_rises_0 (by decide +kernel) ?_
  refine sw_istore_n (pc' := 2) (lv' := [(1, _), (0, _)]) rfl dX1_rises_1 (by decide +kernel) rfl ?_
  exact l_rises hS (c - 1) 0 (by omega) (by omega)
theorem l_hasEachOnce {h : AH} {b kd c d bc bs n : Nat} {f : Nat → Int32} {s t : Int32} (hS : ShF h b kd f c s t) (hd : 1 ≤ d) (m : Nat) : ∀ j, j + m = c → SW SR0 MX1_hasEachOnce d bc bs 2 [(1, .int (nI j)), (0, .ref b)] [] h n (Det (.inl (some (.int (bI (eoB f c j m))))) h n) := by
  have hc := hS.2.2.1
  induction m with
  | zero =>
    intro j hj
    have hjc : j = c := by omega
    subst hjc
    refine sw_iload_n (pc' := 3) rfl dX1_hasEachOnce_2 rfl ?_
    refine sw_aload_n (pc' := 4) rfl dX1_hasEachOnce_3 rfl ?_
    refine sw_getf (ci := 2) (k := 2) (pc' := 7) rfl dX1_hasEachOnce_4 (by decide +kernel) w_83 hS.1 rfl ?_
    refine sw_icmp_ge (pc' := 10) (tgt := 32) rfl dX1_hasEachOnce_7 (by decide +kernel) (fun c7 => ?_) (fun c7 => ?_)
    · refine sw_iconst (pc' := 33) (v := 1) rfl dX1_hasEachOnce_32 (by decide +kernel) ?_
      refine sw_ret (v := some _) ⟨dX1_hasEachOnce_33, _, rfl, rfl⟩ ?_
      exact ⟨rfl, rfl, rfl⟩
    · exact absurd (Int32.le_refl _) c7
  | succ m ih =>
    intro j hj
    refine sw_iload_n (pc' := 3) rfl dX1_hasEachOnce_2 rfl ?_
    refine sw_aload_n (pc' := 4) rfl dX1_hasEachOnce_3 rfl ?_
    refine sw_getf (ci := 2) (k := 2) (pc' := 7) rfl dX1_hasEachOnce_4 (by decide +kernel) w_83 hS.1 rfl ?_
    refine sw_icmp_ge (pc' := 10) (tgt := 32) rfl dX1_hasEachOnce_7 (by decide +kernel) (fun c7 => ?_) (fun c7 => ?_)
    · exact absurd c7 (nI_ge (by omega) (by omega))
    · refine sw_aload_n (pc' := 11) rfl dX1_hasEachOnce_10 rfl ?_
      refine sw_aload_n (pc' := 12) rfl dX1_hasEachOnce_11 rfl ?_
      refine sw_getf (ci := 2) (k := 1) (pc' := 15) rfl dX1_hasEachOnce_12 (by decide +kernel) w_82 hS.1 rfl ?_
      refine sw_iload_n (pc' := 16) rfl dX1_hasEachOnce_15 rfl ?_
      refine sw_iald (pc' := 17) rfl dX1_hasEachOnce_16 hS.2.1 rfl (by omega) (by decide +kernel) ?_
      refine sw_V (M' := MX1_firstPlace) (d' := d - 1) (bc' := 0) (bs' := 0) (ci := 2) (as := [_]) dX1_hasEachOnce_17 w_247 ok_X1_firstPlace (m_firstPlace hS) hS.1 rfl (by omega) (Nat.le_of_ble_eq_true rfl) (Nat.zero_le _) (Nat.zero_le _) (fun E h' n' _ z => det_x z) (det_k ?_)
      refine sw_iload_n (pc' := 21) rfl dX1_hasEachOnce_20 rfl ?_
      refine sw_icmp_eq (pc' := 24) (tgt := 26) rfl dX1_hasEachOnce_21 (by decide +kernel) (fun c21 => ?_) (fun c21 => ?_)
      · refine sw_iinc (pc' := 29) (lv' := [(1, _), (0, _)]) (v := nI (j + 1)) rfl dX1_hasEachOnce_26 rfl (nI_succ j).symm (by decide +kernel) rfl ?_
        refine sw_goto (tgt := 2) dX1_hasEachOnce_29 (by decide +kernel) ?_
        rw [eoB, show decide (fpN f (f j) 0 c = some j) = true from decide_eq_true (opI_s (fun i e => by have := fpN_at e; omega) (by omega) c21), Bool.true_and]
        exact ih (j + 1) (by omega)
      · refine sw_iconst (pc' := 25) (v := 0) rfl dX1_hasEachOnce_24 (by decide +kernel) ?_
        refine sw_ret (v := some _) ⟨dX1_hasEachOnce_25, _, rfl, rfl⟩ ?_
        exact ⟨by rw [eoB, show decide (fpN f (f j) 0 c = some j) = false from decide_eq_false (fun q => c21 (by rw [q]; rfl))]; rfl, rfl, rfl⟩
theorem m_hasEachOnce {h : AH} {b kd c d bc bs n : Nat} {f : Nat → Int32} {s t : Int32} (hS : ShF h b kd f c s t) (hd : 1 ≤ d) : SM SR0 MX1_hasEachOnce d bc bs [.ref b] h n (Det (.inl (some (.int (bI (eoB f c 0 c))))) h n) := by
  refine sm_of pn_Overwalks_Shelf rfl (Nat.le_of_ble_eq_true rfl) ?_
  refine sw_iconst (pc' := 1) (v := 0) rfl dX1_hasEachOnce_0 (by decide +kernel) ?_
  refine sw_istore_n (pc' := 2) (lv' := [(1, _), (0, _)]) rfl dX1_hasEachOnce_1 (by decide +kernel) rfl ?_
  exact l_hasEachOnce hS hd c 0 (by omega)
end
section
/-! 14.shelfw -/
/-! Shelf: its methods that write -/
def FrS (h h' : AH) (b : Nat) : Prop := ∀ i, i ≠ b → i ≠ b + 1 → h' i = h i
theorem FrS.rf {h : AH} {b : Nat} : FrS h h b := fun _ _ _ => rfl
theorem FrS.tr {h h1 h2 : AH} {b : Nat} (a : FrS h h1 b) (c : FrS h1 h2 b) : FrS h h2 b := fun i p q => (c i p q).trans (a i p q)
/-- the Shelf at b is otherwise, nothing else is -/
def ShP (h : AH) (b kd : Nat) (r : Option Value) (f : Nat → Int32) (c : Nat) (s t : Int32) (n : Nat) : ARes → AH → Nat → Prop := fun r' h' n' => r' = .inl r ∧ n' = n ∧ ShF h' b kd f c s t ∧ FrS h h' b
theorem shp_k {A : Nat → AH → Option Value → Prop} {h : AH} {b kd c n n0 : Nat} {r : Option Value} {f : Nat → Int32} {s t : Int32} (k : ∀ h', ShF h' b kd f c s t → FrS h h' b → A n h' r) : ∀ (v : Option Value) (h' : AH) (n' : Nat), n0 ≤ n' → ShP h b kd r f c s t n (.inl v) h' n' → A n' h' v := by
  rintro v h' n' - ⟨e, rfl, g1, g2⟩
  cases e
  exact k h' g1 g2
theorem shp_x {A : Prop} {h : AH} {b kd c n : Nat} {r : Option Value} {f : Nat → Int32} {s t : Int32} {E : String} {h' : AH} {n' : Nat} (z : ShP h b kd r f c s t n (.inr E) h' n') : A := by cases z.1
theorem KdF.fr {h h' : AH} {k b : Nat} (hK : KdF h k) (hF : FrS h h' b) (hb : nC ≤ b) : KdF h' k := by
  have hb2 : 100 ≤ b := hb
  have h1 := hK.1
  exact ⟨hK.1, (hF k (by omega) (by omega)).trans hK.2⟩
theorem ShF.fr {h h' : AH} {b b2 kd c : Nat} {f : Nat → Int32} {s t : Int32} (hS : ShF h b2 kd f c s t) (hF : FrS h h' b) (h1 : b + 2 ≤ b2 ∨ b2 + 2 ≤ b) : ShF h' b2 kd f c s t := ⟨(hF _ (by omega) (by omega)).trans hS.1, (hF _ (by omega) (by omega)).trans hS.2.1, hS.2.2⟩
theorem taI_in {f : Nat → Int32} {c j : Nat} (hj : j < c) (hc : c ≤ 12) : taI f c (nI j) = f j := by
  rw [taI, if_pos ⟨nI_pos (by omega), nI_ge hj (by omega)⟩, nI_clamp (by omega)]
/-- the things from place i + 1 to c stand one further -/
def mvN (f : Nat → Int32) (i c : Nat) : Nat → Int32 := fun q => if i < q ∧ q ≤ c then f (q - 1) else f q
def laN (f : Nat → Int32) (j : Nat) (x : Int32) (c : Nat) : Nat → Int32 := up (mvN f j c) j x
theorem mvN_c {f : Nat → Int32} {c : Nat} : mvN f c c = f := by
  funext q
  exact if_neg (by omega)
theorem mvN_s {f : Nat → Int32} {i c : Nat} (h : i + 1 ≤ c) : up (mvN f (i + 1) c) (i + 1) (mvN f (i + 1) c i) = mvN f i c := by
  funext q
  by_cases e : q = i + 1
  · subst e
    rw [up_s]
    unfold mvN
    rw [if_neg (by omega), if_pos (by omega)]
    rfl
  · rw [up_n e]
    unfold mvN
    by_cases g : i < q ∧ q ≤ c
    · rw [if_pos (by omega), if_pos g]
    · rw [if_neg (by omega), if_neg g]
/-- the things of the places j to i - 1 are those one further -/
def liN (f : Nat → Int32) (j i : Nat) : Nat → Int32 := fun q => if j ≤ q ∧ q < i then f (q + 1) else f q
theorem liN_j {f : Nat → Int32} {j : Nat} : liN f j j = f := by
  funext q
  exact if_neg (by omega)
theorem liN_s {f : Nat → Int32} {i j : Nat} (h : j ≤ i) : up (liN f j i) i (liN f j i (i + 1)) = liN f j (i + 1) := by
  funext q
  by_cases e : q = i
  · subst e
    rw [up_s]
    unfold liN
    rw [if_neg (by omega), if_pos (by omega)]
  · rw [up_n e]
    unfold liN
    by_cases g : j ≤ q ∧ q < i
    · rw [if_pos g, if_pos (by omega)]
    · rw [if_neg g, if_neg (by omega)]
def rvN (f : Nat → Int32) (a e : Nat) : Nat → Int32 := fun q => if a ≤ q ∧ q < e then f (a + e - 1 - q) else f q
theorem rvN_1 {f : Nat → Int32} {a e : Nat} (h : e ≤ a + 1) : rvN f a e = f := by
  funext q
  unfold rvN
  by_cases g : a ≤ q ∧ q < e
  · rw [if_pos g]
    congr 1
    omega
  · rw [if_neg g]
theorem rvN_s {f : Nat → Int32} {a m : Nat} : rvN (up (up f (a + m + 1) (f a)) a (f (a + m + 1))) (a + 1) (a + m + 1) = rvN f a (a + m + 2) := by
  funext q
  unfold rvN
  by_cases g : a ≤ q ∧ q < a + m + 2
  · rw [if_pos g]
    by_cases g1 : q = a
    · subst g1
      rw [if_neg (by omega), up_s]
      congr 1
      omega
    · by_cases g2 : q = a + m + 1
      · subst g2
        rw [if_neg (by omega), up_n (by omega), up_s]
        congr 1
        omega
      · rw [if_pos (by omega), up_n (by omega), up_n (by omega)]
        congr 1
        omega
  · rw [if_neg g, if_neg (by omega), up_n (by omega), up_n (by omega)]
def ldY (f : Nat → Int32) (c kd : Nat) (x : Int32) : Bool := !(kE kd && (fpN f x 0 c).isSome)
def ldP (f : Nat → Int32) (c kd : Nat) (x : Int32) : Nat := if kd = 2 then rpN f x 0 c else c
/-- the first i things are those of f2 from place k on -/
def blN (f f2 : Nat → Int32) (k i : Nat) : Nat → Int32 := fun q => if q < i then f2 (k + q) else f q
theorem blN_0 {f f2 : Nat → Int32} {k : Nat} : blN f f2 k 0 = f := by
  funext q
  exact if_neg (by omega)
theorem blN_s {f f2 : Nat → Int32} {k i : Nat} : up (blN f f2 k i) i (f2 (k + i)) = blN f f2 k (i + 1) := by
  funext q
  by_cases e : q = i
  · subst e
    rw [up_s]
    exact (if_pos (by omega)).symm
  · rw [up_n e]
    unfold blN
    by_cases g : q < i
    · rw [if_pos g, if_pos (by omega)]
    · rw [if_neg g, if_neg (by omega)]
theorem blN_self {f : Nat → Int32} {i : Nat} : blN f f 0 i = f := by
  funext q
  unfold blN
  by_cases g : q < i
  · rw [if_pos g, Nat.zero_add]
  · rw [if_neg g]
theorem up_id {α : Type} {f : Nat → α} {i : Nat} : up f i (f i) = f := by
  funext q
  by_cases e : q = i
  · rw [e, up_s]
  · rw [up_n e]
theorem m_exchange {h : AH} {b kd c d bc bs n : Nat} {f : Nat → Int32} {s t x : Int32} {j : Nat} (hS : ShF h b kd f c s t) (hj : j < c) : SM SR0 MX1_exchange d bc bs [.ref b, .int (nI j), .int x] h n (ShP h b kd (some (.int (f j))) (up f j x) c s t n) := by
  have hc := hS.2.2.1
  refine sm_of pn_Overwalks_Shelf rfl (Nat.le_of_ble_eq_true rfl) ?_
  refine sw_iload_n (pc' := 1) rfl dX1_exchange_0 rfl ?_
  refine sw_if_lt (pc' := 4) (tgt := 12) rfl dX1_exchange_1 (by decide +kernel) (fun c1 => ?_) (fun c1 => ?_)
  · exact absurd c1 (nI_pos (by omega))
  · refine sw_iload_n (pc' := 5) rfl dX1_exchange_4 rfl ?_
    refine sw_aload_n (pc' := 6) rfl dX1_exchange_5 rfl ?_
    refine sw_getf (ci := 2) (k := 2) (pc' := 9) rfl dX1_exchange_6 (by decide +kernel) w_83 hS.1 rfl ?_
    refine sw_icmp_lt (pc' := 12) (tgt := 14) rfl dX1_exchange_9 (by decide +kernel) (fun c9 => ?_) (fun c9 => ?_)
    · refine sw_aload_n (pc' := 15) rfl dX1_exchange_14 rfl ?_
      refine sw_getf (ci := 2) (k := 1) (pc' := 18) rfl dX1_exchange_15 (by decide +kernel) w_82 hS.1 rfl ?_
      refine sw_iload_n (pc' := 19) rfl dX1_exchange_18 rfl ?_
      refine sw_iald (pc' := 20) rfl dX1_exchange_19 hS.2.1 rfl (by omega) (by decide +kernel) ?_
      refine sw_istore_n (pc' := 21) (lv' := [(3, _), (0, _), (1, _), (2, _)]) rfl dX1_exchange_20 (by decide +kernel) rfl ?_
      refine sw_aload_n (pc' := 22) rfl dX1_exchange_21 rfl ?_
      refine sw_getf (ci := 2) (k := 1) (pc' := 25) rfl dX1_exchange_22 (by decide +kernel) w_82 hS.1 rfl ?_
      refine sw_iload_n (pc' := 26) rfl dX1_exchange_25 rfl ?_
      refine sw_iload_n (pc' := 27) rfl dX1_exchange_26 rfl ?_
      refine sw_iast (pc' := 28) rfl dX1_exchange_27 hS.2.1 (Nat.le_succ_of_le hS.2.2.2) rfl (by omega) (by decide +kernel) ?_
      refine sw_nm (fun g1 eg1 => ?_)
      have zk2 := (congrFun eg1 _).trans (up_s (h := h) (i := (b + 1)))
      have zk3 := ((congrFun eg1 b).trans (up_n (h := h) (by omega))).trans hS.1
      refine sw_iload_n (pc' := 29) rfl dX1_exchange_28 rfl ?_
      refine sw_ret (v := some _) ⟨dX1_exchange_29, _, rfl, rfl⟩ ?_
      exact ⟨rfl, rfl, ⟨zk3, zk2, hc, hS.2.2.2⟩, (fun i h1 h2 => (congrFun eg1 i).trans ((up_n h2).trans (rfl)))⟩
    · exact absurd (nI_lt hj (by omega)) c9
theorem l_layAhead {b kd c d bc bs n : Nat} {f : Nat → Int32} {s t x : Int32} {h0 : AH} {j : Nat} (hc : c < 12) (m : Nat) : ∀ h, ShF h b kd (mvN f (j + m) c) c s t → FrS h0 h b → j + m ≤ c → SW SR0 MX1_layAhead d bc bs 28 [(3, .int (nI (j + m))), (0, .ref b), (1, .int (nI j)), (2, .int x)] [] h n (ShP h0 b kd (some (.int 1)) (laN f j x c) (c + 1) (s + 1) t n) := by
  induction m with
  | zero =>
    intro h hS hF hj
    refine sw_iload_n (pc' := 29) rfl dX1_layAhead_28 rfl ?_
    refine sw_iload_n (pc' := 30) rfl dX1_layAhead_29 rfl ?_
    refine sw_icmp_le (pc' := 33) (tgt := 53) rfl dX1_layAhead_30 (by decide +kernel) (fun c30 => ?_) (fun c30 => ?_)
    · refine sw_aload_n (pc' := 54) rfl dX1_layAhead_53 rfl ?_
      refine sw_getf (ci := 2) (k := 1) (pc' := 57) rfl dX1_layAhead_54 (by decide +kernel) w_82 hS.1 rfl ?_
      refine sw_iload_n (pc' := 58) rfl dX1_layAhead_57 rfl ?_
      refine sw_iload_n (pc' := 59) rfl dX1_layAhead_58 rfl ?_
      refine sw_iast (pc' := 60) rfl dX1_layAhead_59 hS.2.1 (Nat.le_succ_of_le hS.2.2.2) rfl (by omega) (by decide +kernel) ?_
      refine sw_nm (fun g1 eg1 => ?_)
      have zk2 := (congrFun eg1 _).trans (up_s (h := h) (i := (b + 1)))
      have zk3 := ((congrFun eg1 b).trans (up_n (h := h) (by omega))).trans hS.1
      refine sw_aload_n (pc' := 61) rfl dX1_layAhead_60 rfl ?_
      refine sw_dup (pc' := 62) rfl dX1_layAhead_61 rfl ?_
      refine sw_getf (ci := 2) (k := 2) (pc' := 65) rfl dX1_layAhead_62 (by decide +kernel) w_83 zk3 rfl ?_
      refine sw_iconst (pc' := 66) (v := 1) rfl dX1_layAhead_65 (by decide +kernel) ?_
      refine sw_iadd (pc' := 67) rfl dX1_layAhead_66 ?_
      refine sw_putf (ci := 2) (k := 2) (pc' := 70) rfl dX1_layAhead_67 (by decide +kernel) (by decide +kernel) w_83 rfl zk3 hS.2.2.2 (Nat.le_of_ble_eq_true rfl) rfl rfl ?_
      refine sw_nm (fun g4 eg4 => ?_)
      have zk5 := (congrFun eg4 _).trans (up_s (h := g1) (i := b))
      have zk6 := ((congrFun eg4 (b + 1)).trans (up_n (h := g1) (by omega))).trans zk2
      refine sw_aload_n (pc' := 71) rfl dX1_layAhead_70 rfl ?_
      refine sw_dup (pc' := 72) rfl dX1_layAhead_71 rfl ?_
      refine sw_getf (ci := 2) (k := 3) (pc' := 75) rfl dX1_layAhead_72 (by decide +kernel) w_87 zk5 rfl ?_
      refine sw_iconst (pc' := 76) (v := 1) rfl dX1_layAhead_75 (by decide +kernel) ?_
      refine sw_iadd (pc' := 77) rfl dX1_layAhead_76 ?_
      refine sw_putf (ci := 2) (k := 3) (pc' := 80) rfl dX1_layAhead_77 (by decide +kernel) (by decide +kernel) w_87 rfl zk5 hS.2.2.2 (Nat.le_of_ble_eq_true rfl) rfl rfl ?_
      refine sw_nm (fun g7 eg7 => ?_)
      have zk8 := (congrFun eg7 _).trans (up_s (h := g4) (i := b))
      have zk9 := ((congrFun eg7 (b + 1)).trans (up_n (h := g4) (by omega))).trans zk6
      refine sw_iconst (pc' := 81) (v := 1) rfl dX1_layAhead_80 (by decide +kernel) ?_
      refine sw_ret (v := some _) ⟨dX1_layAhead_81, _, rfl, rfl⟩ ?_
      exact ⟨rfl, rfl, ⟨by rw [nI_succ]; exact zk8, zk9, hc, hS.2.2.2⟩, (fun i h1 h2 => (congrFun eg7 i).trans ((up_n h1).trans ((congrFun eg4 i).trans ((up_n h1).trans ((congrFun eg1 i).trans ((up_n h2).trans (hF i h1 h2)))))))⟩
    · exact absurd (Int32.le_refl _) c30
  | succ m ih =>
    intro h hS hF hj
    refine sw_iload_n (pc' := 29) rfl dX1_layAhead_28 rfl ?_
    refine sw_iload_n (pc' := 30) rfl dX1_layAhead_29 rfl ?_
    refine sw_icmp_le (pc' := 33) (tgt := 53) rfl dX1_layAhead_30 (by decide +kernel) (fun c30 => ?_) (fun c30 => ?_)
    · exact absurd c30 (nI_ge (by omega) (by omega))
    · refine sw_aload_n (pc' := 34) rfl dX1_layAhead_33 rfl ?_
      refine sw_getf (ci := 2) (k := 1) (pc' := 37) rfl dX1_layAhead_34 (by decide +kernel) w_82 hS.1 rfl ?_
      refine sw_iload_n (pc' := 38) rfl dX1_layAhead_37 rfl ?_
      refine sw_aload_n (pc' := 39) rfl dX1_layAhead_38 rfl ?_
      refine sw_getf (ci := 2) (k := 1) (pc' := 42) rfl dX1_layAhead_39 (by decide +kernel) w_82 hS.1 rfl ?_
      refine sw_iload_n (pc' := 43) rfl dX1_layAhead_42 rfl ?_
      refine sw_iconst (pc' := 44) (v := 1) rfl dX1_layAhead_43 (by decide +kernel) ?_
      refine sw_isub (pc' := 45) rfl dX1_layAhead_44 ?_
      refine sw_iald (pc' := 46) rfl dX1_layAhead_45 hS.2.1 (nI_pred (j + m)) (by omega) (by decide +kernel) ?_
      refine sw_iast (pc' := 47) rfl dX1_layAhead_46 hS.2.1 (Nat.le_succ_of_le hS.2.2.2) rfl (by omega) (by decide +kernel) ?_
      refine sw_nm (fun g10 eg10 => ?_)
      have zk11 := (congrFun eg10 _).trans (up_s (h := h) (i := (b + 1)))
      have zk12 := ((congrFun eg10 b).trans (up_n (h := h) (by omega))).trans hS.1
      refine sw_iinc (pc' := 50) (lv' := [(3, _), (0, _), (1, _), (2, _)]) (v := nI (j + m)) rfl dX1_layAhead_47 rfl ((i_m1 _).trans (nI_pred (j + m))) (by decide +kernel) rfl ?_
      refine sw_goto (tgt := 28) dX1_layAhead_50 (by decide +kernel) ?_
      exact ih g10 ⟨zk12, (show up (mvN f (j + m + 1) c) (j + m + 1) (mvN f (j + m + 1) c (j + m)) = mvN f (j + m) c from mvN_s hj) ▸ zk11, hS.2.2⟩ (fun i h1 h2 => (congrFun eg10 i).trans ((up_n h2).trans (hF i h1 h2))) (by omega)
theorem m_layAhead {h : AH} {b kd c d bc bs n : Nat} {f : Nat → Int32} {s t x : Int32} {j : Nat} (hS : ShF h b kd f c s t) (hj : j ≤ c) (hc : c < 12) : SM SR0 MX1_layAhead d bc bs [.ref b, .int (nI j), .int x] h n (ShP h b kd (some (.int 1)) (laN f j x c) (c + 1) (s + 1) t n) := by
  refine sm_of pn_Overwalks_Shelf rfl (Nat.le_of_ble_eq_true rfl) ?_
  refine sw_iload_n (pc' := 1) rfl dX1_layAhead_0 rfl ?_
  refine sw_if_lt (pc' := 4) (tgt := 21) rfl dX1_layAhead_1 (by decide +kernel) (fun c1 => ?_) (fun c1 => ?_)
  · exact absurd c1 (nI_pos (by omega))
  · refine sw_iload_n (pc' := 5) rfl dX1_layAhead_4 rfl ?_
    refine sw_aload_n (pc' := 6) rfl dX1_layAhead_5 rfl ?_
    refine sw_getf (ci := 2) (k := 2) (pc' := 9) rfl dX1_layAhead_6 (by decide +kernel) w_83 hS.1 rfl ?_
    refine sw_icmp_gt (pc' := 12) (tgt := 21) rfl dX1_layAhead_9 (by decide +kernel) (fun c9 => ?_) (fun c9 => ?_)
    · exact absurd c9 (nI_nlt hj (by omega))
    · refine sw_aload_n (pc' := 13) rfl dX1_layAhead_12 rfl ?_
      refine sw_getf (ci := 2) (k := 2) (pc' := 16) rfl dX1_layAhead_13 (by decide +kernel) w_83 hS.1 rfl ?_
      refine sw_bipush (pc' := 18) (v := 12) rfl dX1_layAhead_16 (by decide +kernel) ?_
      refine sw_icmp_lt (pc' := 21) (tgt := 23) rfl dX1_layAhead_18 (by decide +kernel) (fun c18 => ?_) (fun c18 => ?_)
      · refine sw_aload_n (pc' := 24) rfl dX1_layAhead_23 rfl ?_
        refine sw_getf (ci := 2) (k := 2) (pc' := 27) rfl dX1_layAhead_24 (by decide +kernel) w_83 hS.1 rfl ?_
        refine sw_istore_n (pc' := 28) (lv' := [(3, _), (0, _), (1, _), (2, _)]) rfl dX1_layAhead_27 (by decide +kernel) rfl ?_
        have k := l_layAhead (h0 := h) (f := f) (b := b) (kd := kd) (s := s) (t := t) (j := j) (d := d) (bc := bc) (bs := bs) (n := n) (x := x) hc (c - j) h
        rw [show j + (c - j) = c by omega, mvN_c] at k
        exact k hS FrS.rf (Nat.le_refl _)
      · exact absurd (nI_lt (b := 12) hc (by decide +kernel)) c18
theorem l_lift {b kd c d bc bs n : Nat} {f : Nat → Int32} {s t : Int32} {h0 : AH} {j : Nat} {v : Int32} (hc : c < 12) (m : Nat) : ∀ i (h : AH), i + m = c → j ≤ i → ShF h b kd (liN f j i) c s t → FrS h0 h b → SW SR0 MX1_lift d bc bs 33 [(3, .int (nI i)), (2, .int v), (0, .ref b), (1, .int (nI j))] [] h n (ShP h0 b kd (some (.int v)) (liN f j c) c (s + 1) t n) := by
  induction m with
  | zero =>
    intro i h hi hj hS hF
    have hic : i = c := by omega
    subst hic
    refine sw_iload_n (pc' := 34) rfl dX1_lift_33 rfl ?_
    refine sw_aload_n (pc' := 35) rfl dX1_lift_34 rfl ?_
    refine sw_getf (ci := 2) (k := 2) (pc' := 38) rfl dX1_lift_35 (by decide +kernel) w_83 hS.1 rfl ?_
    refine sw_icmp_ge (pc' := 41) (tgt := 61) rfl dX1_lift_38 (by decide +kernel) (fun c38 => ?_) (fun c38 => ?_)
    · refine sw_aload_n (pc' := 62) rfl dX1_lift_61 rfl ?_
      refine sw_dup (pc' := 63) rfl dX1_lift_62 rfl ?_
      refine sw_getf (ci := 2) (k := 3) (pc' := 66) rfl dX1_lift_63 (by decide +kernel) w_87 hS.1 rfl ?_
      refine sw_iconst (pc' := 67) (v := 1) rfl dX1_lift_66 (by decide +kernel) ?_
      refine sw_iadd (pc' := 68) rfl dX1_lift_67 ?_
      refine sw_putf (ci := 2) (k := 3) (pc' := 71) rfl dX1_lift_68 (by decide +kernel) (by decide +kernel) w_87 rfl hS.1 hS.2.2.2 (Nat.le_of_ble_eq_true rfl) rfl rfl ?_
      refine sw_nm (fun g1 eg1 => ?_)
      have zk2 := (congrFun eg1 _).trans (up_s (h := h) (i := b))
      have zk3 := ((congrFun eg1 (b + 1)).trans (up_n (h := h) (by omega))).trans hS.2.1
      refine sw_iload_n (pc' := 72) rfl dX1_lift_71 rfl ?_
      refine sw_ret (v := some _) ⟨dX1_lift_72, _, rfl, rfl⟩ ?_
      exact ⟨rfl, rfl, ⟨zk2, zk3, hS.2.2⟩, (fun i h1 h2 => (congrFun eg1 i).trans ((up_n h1).trans (hF i h1 h2)))⟩
    · exact absurd (Int32.le_refl _) c38
  | succ m ih =>
    intro i h hi hj hS hF
    refine sw_iload_n (pc' := 34) rfl dX1_lift_33 rfl ?_
    refine sw_aload_n (pc' := 35) rfl dX1_lift_34 rfl ?_
    refine sw_getf (ci := 2) (k := 2) (pc' := 38) rfl dX1_lift_35 (by decide +kernel) w_83 hS.1 rfl ?_
    refine sw_icmp_ge (pc' := 41) (tgt := 61) rfl dX1_lift_38 (by decide +kernel) (fun c38 => ?_) (fun c38 => ?_)
    · exact absurd c38 (nI_ge (by omega) (by omega))
    · refine sw_aload_n (pc' := 42) rfl dX1_lift_41 rfl ?_
      refine sw_getf (ci := 2) (k := 1) (pc' := 45) rfl dX1_lift_42 (by decide +kernel) w_82 hS.1 rfl ?_
      refine sw_iload_n (pc' := 46) rfl dX1_lift_45 rfl ?_
      refine sw_aload_n (pc' := 47) rfl dX1_lift_46 rfl ?_
      refine sw_getf (ci := 2) (k := 1) (pc' := 50) rfl dX1_lift_47 (by decide +kernel) w_82 hS.1 rfl ?_
      refine sw_iload_n (pc' := 51) rfl dX1_lift_50 rfl ?_
      refine sw_iconst (pc' := 52) (v := 1) rfl dX1_lift_51 (by decide +kernel) ?_
      refine sw_iadd (pc' := 53) rfl dX1_lift_52 ?_
      refine sw_iald (pc' := 54) rfl dX1_lift_53 hS.2.1 (nI_1 i) (by omega) (by decide +kernel) ?_
      refine sw_iast (pc' := 55) rfl dX1_lift_54 hS.2.1 (Nat.le_succ_of_le hS.2.2.2) rfl (by omega) (by decide +kernel) ?_
      refine sw_nm (fun g4 eg4 => ?_)
      have zk5 := (congrFun eg4 _).trans (up_s (h := h) (i := (b + 1)))
      have zk6 := ((congrFun eg4 b).trans (up_n (h := h) (by omega))).trans hS.1
      refine sw_iinc (pc' := 58) (lv' := [(3, _), (2, _), (0, _), (1, _)]) (v := nI (i + 1)) rfl dX1_lift_55 rfl (nI_succ i).symm (by decide +kernel) rfl ?_
      refine sw_goto (tgt := 33) dX1_lift_58 (by decide +kernel) ?_
      exact ih (i + 1) g4 (by omega) (by omega) ⟨zk6, (liN_s hj) ▸ zk5, hS.2.2⟩ (fun i h1 h2 => (congrFun eg4 i).trans ((up_n h2).trans (hF i h1 h2)))
theorem m_lift {h : AH} {b kd c d bc bs n : Nat} {f : Nat → Int32} {s t : Int32} {j : Nat} (hS : ShF h b kd f (c + 1) s t) (hj : j ≤ c) : SM SR0 MX1_lift d bc bs [.ref b, .int (nI j)] h n (ShP h b kd (some (.int (f j))) (liN f j c) c (s + 1) t n) := by
  have hc := hS.2.2.1
  refine sm_of pn_Overwalks_Shelf rfl (Nat.le_of_ble_eq_true rfl) ?_
  refine sw_iload_n (pc' := 1) rfl dX1_lift_0 rfl ?_
  refine sw_if_lt (pc' := 4) (tgt := 12) rfl dX1_lift_1 (by decide +kernel) (fun c1 => ?_) (fun c1 => ?_)
  · exact absurd c1 (nI_pos (by omega))
  · refine sw_iload_n (pc' := 5) rfl dX1_lift_4 rfl ?_
    refine sw_aload_n (pc' := 6) rfl dX1_lift_5 rfl ?_
    refine sw_getf (ci := 2) (k := 2) (pc' := 9) rfl dX1_lift_6 (by decide +kernel) w_83 hS.1 rfl ?_
    refine sw_icmp_lt (pc' := 12) (tgt := 14) rfl dX1_lift_9 (by decide +kernel) (fun c9 => ?_) (fun c9 => ?_)
    · refine sw_aload_n (pc' := 15) rfl dX1_lift_14 rfl ?_
      refine sw_getf (ci := 2) (k := 1) (pc' := 18) rfl dX1_lift_15 (by decide +kernel) w_82 hS.1 rfl ?_
      refine sw_iload_n (pc' := 19) rfl dX1_lift_18 rfl ?_
      refine sw_iald (pc' := 20) rfl dX1_lift_19 hS.2.1 rfl (by omega) (by decide +kernel) ?_
      refine sw_istore_n (pc' := 21) (lv' := [(2, _), (0, _), (1, _)]) rfl dX1_lift_20 (by decide +kernel) rfl ?_
      refine sw_aload_n (pc' := 22) rfl dX1_lift_21 rfl ?_
      refine sw_dup (pc' := 23) rfl dX1_lift_22 rfl ?_
      refine sw_getf (ci := 2) (k := 2) (pc' := 26) rfl dX1_lift_23 (by decide +kernel) w_83 hS.1 rfl ?_
      refine sw_iconst (pc' := 27) (v := 1) rfl dX1_lift_26 (by decide +kernel) ?_
      refine sw_isub (pc' := 28) rfl dX1_lift_27 ?_
      refine sw_putf (ci := 2) (k := 2) (pc' := 31) rfl dX1_lift_28 (by decide +kernel) (by decide +kernel) w_83 rfl hS.1 hS.2.2.2 (Nat.le_of_ble_eq_true rfl) rfl rfl ?_
      refine sw_nm (fun g7 eg7 => ?_)
      have zk8 := (congrFun eg7 _).trans (up_s (h := h) (i := b))
      have zk9 := ((congrFun eg7 (b + 1)).trans (up_n (h := h) (by omega))).trans hS.2.1
      refine sw_iload_n (pc' := 32) rfl dX1_lift_31 rfl ?_
      refine sw_istore_n (pc' := 33) (lv' := [(3, _), (2, _), (0, _), (1, _)]) rfl dX1_lift_32 (by decide +kernel) rfl ?_
      exact l_lift (h0 := h) (by omega) (c - j) j g7 (by omega) (Nat.le_refl _) ⟨by rw [← nI_pred c]; exact zk8, by rw [liN_j]; exact zk9, by omega, hS.2.2.2⟩ (fun i h1 h2 => (congrFun eg7 i).trans ((up_n h1).trans (rfl)))
    · exact absurd (nI_lt (by omega) (by omega)) c9
theorem m_liftAll {h : AH} {b kd c d bc bs n : Nat} {f : Nat → Int32} {s t : Int32} (hS : ShF h b kd f c s t) : SM SR0 MX1_liftAll d bc bs [.ref b] h n (ShP h b kd none f 0 (if c = 0 then s else s + 1) t n) := by
  have hc := hS.2.2.1
  refine sm_of pn_Overwalks_Shelf rfl (Nat.le_of_ble_eq_true rfl) ?_
  refine sw_aload_n (pc' := 1) rfl dX1_liftAll_0 rfl ?_
  refine sw_getf (ci := 2) (k := 2) (pc' := 4) rfl dX1_liftAll_1 (by decide +kernel) w_83 hS.1 rfl ?_
  refine sw_if_le (pc' := 7) (tgt := 22) rfl dX1_liftAll_4 (by decide +kernel) (fun c4 => ?_) (fun c4 => ?_)
  · refine sw_ret (v := none) ⟨dX1_liftAll_22, rfl⟩ ?_
    have hc0 : c = 0 := by
      apply Nat.eq_zero_of_not_pos
      exact fun q => nI_nle q (by omega) c4
    subst hc0
    exact ⟨rfl, rfl, hS, FrS.rf⟩
  · refine sw_aload_n (pc' := 8) rfl dX1_liftAll_7 rfl ?_
    refine sw_iconst (pc' := 9) (v := 0) rfl dX1_liftAll_8 (by decide +kernel) ?_
    refine sw_putf (ci := 2) (k := 2) (pc' := 12) rfl dX1_liftAll_9 (by decide +kernel) (by decide +kernel) w_83 rfl hS.1 hS.2.2.2 (Nat.le_of_ble_eq_true rfl) rfl rfl ?_
    refine sw_nm (fun g1 eg1 => ?_)
    have zk2 := (congrFun eg1 _).trans (up_s (h := h) (i := b))
    have zk3 := ((congrFun eg1 (b + 1)).trans (up_n (h := h) (by omega))).trans hS.2.1
    refine sw_aload_n (pc' := 13) rfl dX1_liftAll_12 rfl ?_
    refine sw_dup (pc' := 14) rfl dX1_liftAll_13 rfl ?_
    refine sw_getf (ci := 2) (k := 3) (pc' := 17) rfl dX1_liftAll_14 (by decide +kernel) w_87 zk2 rfl ?_
    refine sw_iconst (pc' := 18) (v := 1) rfl dX1_liftAll_17 (by decide +kernel) ?_
    refine sw_iadd (pc' := 19) rfl dX1_liftAll_18 ?_
    refine sw_putf (ci := 2) (k := 3) (pc' := 22) rfl dX1_liftAll_19 (by decide +kernel) (by decide +kernel) w_87 rfl zk2 hS.2.2.2 (Nat.le_of_ble_eq_true rfl) rfl rfl ?_
    refine sw_nm (fun g4 eg4 => ?_)
    have zk5 := (congrFun eg4 _).trans (up_s (h := g1) (i := b))
    have zk6 := ((congrFun eg4 (b + 1)).trans (up_n (h := g1) (by omega))).trans zk3
    refine sw_ret (v := none) ⟨dX1_liftAll_22, rfl⟩ ?_
    exact ⟨rfl, rfl, ⟨by rw [if_neg (fun e => c4 (by rw [e]; decide))]; exact zk5, zk6, Nat.zero_le _, hS.2.2.2⟩, (fun i h1 h2 => (congrFun eg4 i).trans ((up_n h1).trans ((congrFun eg1 i).trans ((up_n h1).trans (rfl)))))⟩
theorem l_reverse {b kd c d bc bs n : Nat} {s t : Int32} {h0 : AH} {y z : Int32} (hd : 1 ≤ d) (m : Nat) : ∀ (a : Nat) (h : AH) (f : Nat → Int32), a + m ≤ c → ShF h b kd f c s t → FrS h0 h b → SW SR0 MX1_reverse d bc bs 7 [(4, .int (nI (a + m) - 1)), (3, .int (nI a)), (0, .ref b), (1, .int y), (2, .int z)] [] h n (ShP h0 b kd none (rvN f a (a + m)) c s t n) := by
  induction m using Nat.strongRecOn with
  | _ m ih =>
    intro a h f hm hS hF
    have hc := hS.2.2.1
    match m, ih, hm with
    | 0, ih, hm =>
      rw [rvN_1 (by omega)]
      refine sw_iload_n (pc' := 8) rfl dX1_reverse_7 rfl ?_
      refine sw_iload (pc' := 10) rfl dX1_reverse_8 rfl ?_
      refine sw_icmp_ge (pc' := 13) (tgt := 39) rfl dX1_reverse_10 (by decide +kernel) (fun c10 => ?_) (fun c10 => ?_)
      · refine sw_ret (v := none) ⟨dX1_reverse_39, rfl⟩ ?_
        exact ⟨rfl, rfl, hS, hF⟩
      · exact absurd (show nI (a + 0) - 1 ≤ nI a from by cases a with | zero => decide | succ a => (rw [show a + 1 + 0 = a + 1 from rfl, nI_pred]; exact nI_le (by omega) (by omega))) c10
    | 1, ih, hm =>
      rw [rvN_1 (by omega)]
      refine sw_iload_n (pc' := 8) rfl dX1_reverse_7 rfl ?_
      refine sw_iload (pc' := 10) rfl dX1_reverse_8 rfl ?_
      refine sw_icmp_ge (pc' := 13) (tgt := 39) rfl dX1_reverse_10 (by decide +kernel) (fun c10 => ?_) (fun c10 => ?_)
      · refine sw_ret (v := none) ⟨dX1_reverse_39, rfl⟩ ?_
        exact ⟨rfl, rfl, hS, hF⟩
      · exact absurd (show nI (a + 1) - 1 ≤ nI a from by rw [nI_pred]; exact Int32.le_refl _) c10
    | m + 2, ih, hm =>
      rw [show nI (a + (m + 2)) - 1 = nI (a + m + 1) from nI_pred (a + m + 1)]
      refine sw_iload_n (pc' := 8) rfl dX1_reverse_7 rfl ?_
      refine sw_iload (pc' := 10) rfl dX1_reverse_8 rfl ?_
      refine sw_icmp_ge (pc' := 13) (tgt := 39) rfl dX1_reverse_10 (by decide +kernel) (fun c10 => ?_) (fun c10 => ?_)
      · exact absurd c10 (nI_ge (by omega) (by omega))
      · refine sw_aload_n (pc' := 14) rfl dX1_reverse_13 rfl ?_
        refine sw_iload_n (pc' := 15) rfl dX1_reverse_14 rfl ?_
        refine sw_aload_n (pc' := 16) rfl dX1_reverse_15 rfl ?_
        refine sw_iload (pc' := 18) rfl dX1_reverse_16 rfl ?_
        refine sw_aload_n (pc' := 19) rfl dX1_reverse_18 rfl ?_
        refine sw_iload_n (pc' := 20) rfl dX1_reverse_19 rfl ?_
        refine sw_V (M' := MX1_thingAt) (d' := d - 1) (bc' := 0) (bs' := 0) (ci := 2) (as := [_]) dX1_reverse_20 w_220 ok_X1_thingAt (m_thingAt hS) hS.1 rfl (by omega) (Nat.le_of_ble_eq_true rfl) (Nat.zero_le _) (Nat.zero_le _) (fun E h' n' _ z => det_x z) (det_k ?_)
        refine sw_V (M' := MX1_exchange) (d' := d - 1) (bc' := 0) (bs' := 0) (ci := 2) (as := [_, _]) dX1_reverse_23 w_575 ok_X1_exchange (m_exchange (j := a + m + 1) hS (by omega)) hS.1 rfl (by omega) (Nat.le_of_ble_eq_true rfl) (Nat.zero_le _) (Nat.zero_le _) (fun E h' n' _ z => shp_x z) (shp_k (fun p1 p1S p1F => ?_))
        refine sw_V (M' := MX1_exchange) (d' := d - 1) (bc' := 0) (bs' := 0) (ci := 2) (as := [_, _]) dX1_reverse_26 w_575 ok_X1_exchange (m_exchange (j := a) p1S (by omega)) p1S.1 rfl (by omega) (Nat.le_of_ble_eq_true rfl) (Nat.zero_le _) (Nat.zero_le _) (fun E h' n' _ z => shp_x z) (shp_k (fun p2 p2S p2F => ?_))
        refine sw_pop (pc' := 30) rfl dX1_reverse_29 rfl ?_
        refine sw_iinc (pc' := 33) (lv' := [(3, _), (4, _), (0, _), (1, _), (2, _)]) (v := nI (a + 1)) rfl dX1_reverse_30 rfl (nI_succ a).symm (by decide +kernel) rfl ?_
        refine sw_iinc (pc' := 36) (lv' := [(4, _), (3, _), (0, _), (1, _), (2, _)]) (v := nI (a + m + 1) - 1) rfl dX1_reverse_33 rfl (i_m1 _) (by decide +kernel) rfl ?_
        refine sw_goto (tgt := 7) dX1_reverse_36 (by decide +kernel) ?_
        have e1 := taI_in (f := f) (c := c) (j := a) (by omega) hc
        rw [e1] at p2S
        have k := ih m (by omega) (a + 1) p2 _ (by omega) p2S ((hF.tr p1F).tr p2F)
        rw [show a + 1 + m = a + m + 1 by omega, rvN_s] at k
        exact k
theorem m_reverse {h : AH} {b kd c d bc bs n : Nat} {f : Nat → Int32} {s t : Int32} {a m : Nat} {xa xe : Int32} (hS : ShF h b kd f c s t) (hd : 1 ≤ d) (hm : a + m ≤ c) (ea : xa = nI a) (ee : xe = nI (a + m)) : SM SR0 MX1_reverse d bc bs [.ref b, .int xa, .int xe] h n (ShP h b kd none (rvN f a (a + m)) c s t n) := by
  subst ea ee
  refine sm_of pn_Overwalks_Shelf rfl (Nat.le_of_ble_eq_true rfl) ?_
  refine sw_iload_n (pc' := 1) rfl dX1_reverse_0 rfl ?_
  refine sw_istore_n (pc' := 2) (lv' := [(3, _), (0, _), (1, _), (2, _)]) rfl dX1_reverse_1 (by decide +kernel) rfl ?_
  refine sw_iload_n (pc' := 3) rfl dX1_reverse_2 rfl ?_
  refine sw_iconst (pc' := 4) (v := 1) rfl dX1_reverse_3 (by decide +kernel) ?_
  refine sw_isub (pc' := 5) rfl dX1_reverse_4 ?_
  refine sw_istore (pc' := 7) (lv' := [(4, _), (3, _), (0, _), (1, _), (2, _)]) rfl dX1_reverse_5 (by decide +kernel) rfl ?_
  exact l_reverse hd m a h f hm hS FrS.rf
theorem m_moveOn {h : AH} {b kd c d bc bs n : Nat} {f : Nat → Int32} {s t : Int32} {y : Nat} (hS : ShF h b kd f c s t) (hd : 2 ≤ d) (hy : y ≤ c) : SM SR0 MX1_moveOn d bc bs [.ref b, .int (nI y)] h n (ShP h b kd none (rvN (rvN (rvN f 0 (0 + c)) 0 (0 + y)) y (y + (c - y))) c s t n) := by
  refine sm_of pn_Overwalks_Shelf rfl (Nat.le_of_ble_eq_true rfl) ?_
  refine sw_aload_n (pc' := 1) rfl dX1_moveOn_0 rfl ?_
  refine sw_iconst (pc' := 2) (v := 0) rfl dX1_moveOn_1 (by decide +kernel) ?_
  refine sw_aload_n (pc' := 3) rfl dX1_moveOn_2 rfl ?_
  refine sw_getf (ci := 2) (k := 2) (pc' := 6) rfl dX1_moveOn_3 (by decide +kernel) w_83 hS.1 rfl ?_
  refine sw_V (M' := MX1_reverse) (d' := d - 1) (bc' := 0) (bs' := 0) (ci := 2) (as := [_, _]) dX1_moveOn_6 w_591 ok_X1_reverse (m_reverse (a := 0) (m := c) hS (by omega) (by omega) rfl (by rw [Nat.zero_add])) hS.1 rfl (by omega) (Nat.le_of_ble_eq_true rfl) (Nat.zero_le _) (Nat.zero_le _) (fun E h' n' _ z => shp_x z) (shp_k (fun p1 p1S p1F => ?_))
  refine sw_aload_n (pc' := 10) rfl dX1_moveOn_9 rfl ?_
  refine sw_iconst (pc' := 11) (v := 0) rfl dX1_moveOn_10 (by decide +kernel) ?_
  refine sw_iload_n (pc' := 12) rfl dX1_moveOn_11 rfl ?_
  refine sw_V (M' := MX1_reverse) (d' := d - 1) (bc' := 0) (bs' := 0) (ci := 2) (as := [_, _]) dX1_moveOn_12 w_591 ok_X1_reverse (m_reverse (a := 0) (m := y) p1S (by omega) (by omega) rfl (by rw [Nat.zero_add])) p1S.1 rfl (by omega) (Nat.le_of_ble_eq_true rfl) (Nat.zero_le _) (Nat.zero_le _) (fun E h' n' _ z => shp_x z) (shp_k (fun p2 p2S p2F => ?_))
  refine sw_aload_n (pc' := 16) rfl dX1_moveOn_15 rfl ?_
  refine sw_iload_n (pc' := 17) rfl dX1_moveOn_16 rfl ?_
  refine sw_aload_n (pc' := 18) rfl dX1_moveOn_17 rfl ?_
  refine sw_getf (ci := 2) (k := 2) (pc' := 21) rfl dX1_moveOn_18 (by decide +kernel) w_83 p2S.1 rfl ?_
  refine sw_V (M' := MX1_reverse) (d' := d - 1) (bc' := 0) (bs' := 0) (ci := 2) (as := [_, _]) dX1_moveOn_21 w_591 ok_X1_reverse (m_reverse (a := y) (m := c - y) p2S (by omega) (by omega) rfl (by rw [Nat.add_sub_cancel' hy])) p2S.1 rfl (by omega) (Nat.le_of_ble_eq_true rfl) (Nat.zero_le _) (Nat.zero_le _) (fun E h' n' _ z => shp_x z) (shp_k (fun p3 p3S p3F => ?_))
  refine sw_ret (v := none) ⟨dX1_moveOn_24, rfl⟩ ?_
  exact ⟨rfl, rfl, p3S, (p1F.tr p2F).tr p3F⟩
theorem m_layDown {h : AH} {b kd c d bc bs n : Nat} {f : Nat → Int32} {s t x : Int32} (hS : ShF h b kd f c s t) (hK : KdF h kd) (hc : c < 12) (hd : 2 ≤ d) : SM SR0 MX1_layDown d bc bs [.ref b, .int x] h n (ShP h b kd (some (.int (bI (ldY f c kd x)))) (if ldY f c kd x then laN f (ldP f c kd x) x c else f) (if ldY f c kd x then c + 1 else c) (if ldY f c kd x then s + 1 else s) t n) := by
  refine sm_of pn_Overwalks_Shelf rfl (Nat.le_of_ble_eq_true rfl) ?_
  refine sw_aload_n (pc' := 1) rfl dX1_layDown_0 rfl ?_
  refine sw_getf (ci := 2) (k := 0) (pc' := 4) rfl dX1_layDown_1 (by decide +kernel) w_80 hS.1 rfl ?_
  refine sw_getf (ci := 7) (k := 2) (pc' := 7) rfl dX1_layDown_4 (by decide +kernel) w_1496 hK.2 rfl ?_
  refine sw_if_eq (pc' := 10) (tgt := 20) rfl dX1_layDown_7 (by decide +kernel) (fun c7 => ?_) (fun c7 => ?_)
  · refine sw_aload_n (pc' := 21) rfl dX1_layDown_20 rfl ?_
    refine sw_aload_n (pc' := 22) rfl dX1_layDown_21 rfl ?_
    refine sw_getf (ci := 2) (k := 0) (pc' := 25) rfl dX1_layDown_22 (by decide +kernel) w_80 hS.1 rfl ?_
    refine sw_gets (pc' := 28) rfl dX1_layDown_25 (v := .ref 2) (by decide +kernel) w_451 ?_
    refine sw_acmp (pc' := 31) (tgt := 39) rfl dX1_layDown_28 (by decide +kernel) hK.1 (by decide +kernel) (fun c28 => ?_) (fun c28 => ?_)
    · refine sw_aload_n (pc' := 40) rfl dX1_layDown_39 rfl ?_
      refine sw_getf (ci := 2) (k := 2) (pc' := 43) rfl dX1_layDown_40 (by decide +kernel) w_83 hS.1 rfl ?_
      refine sw_iload_n (pc' := 44) rfl dX1_layDown_43 rfl ?_
      refine sw_V (M' := MX1_layAhead) (d' := d - 1) (bc' := 0) (bs' := 0) (ci := 2) (as := [_, _]) dX1_layDown_44 w_456 ok_X1_layAhead (m_layAhead (j := c) hS (Nat.le_refl _) hc) hS.1 rfl (by omega) (Nat.le_of_ble_eq_true rfl) (Nat.zero_le _) (Nat.zero_le _) (fun E h' n' _ z => shp_x z) (shp_k (fun p1 p1S p1F => ?_))
      refine sw_ret (v := some _) ⟨dX1_layDown_47, _, rfl, rfl⟩ ?_
      have e1 : ldY f c kd x = true := by unfold ldY; rw [bI_0 c7]; rfl
      have e2 : ldP f c kd x = _ := if_neg c28
      rw [e1, e2]
      exact ⟨rfl, rfl, p1S, p1F⟩
    · refine sw_aload_n (pc' := 32) rfl dX1_layDown_31 rfl ?_
      refine sw_iload_n (pc' := 33) rfl dX1_layDown_32 rfl ?_
      refine sw_V (M' := MX1_risingPlace) (d' := d - 1) (bc' := 0) (bs' := 0) (ci := 2) (as := [_]) dX1_layDown_33 w_452 ok_X1_risingPlace (m_risingPlace hS) hS.1 rfl (by omega) (Nat.le_of_ble_eq_true rfl) (Nat.zero_le _) (Nat.zero_le _) (fun E h' n' _ z => det_x z) (det_k ?_)
      refine sw_goto (tgt := 43) dX1_layDown_36 (by decide +kernel) ?_
      refine sw_iload_n (pc' := 44) rfl dX1_layDown_43 rfl ?_
      refine sw_V (M' := MX1_layAhead) (d' := d - 1) (bc' := 0) (bs' := 0) (ci := 2) (as := [_, _]) dX1_layDown_44 w_456 ok_X1_layAhead (m_layAhead (j := rpN f x 0 c) hS (by have := @rpN_at f x c 0; omega) hc) hS.1 rfl (by omega) (Nat.le_of_ble_eq_true rfl) (Nat.zero_le _) (Nat.zero_le _) (fun E h' n' _ z => shp_x z) (shp_k (fun p2 p2S p2F => ?_))
      refine sw_ret (v := some _) ⟨dX1_layDown_47, _, rfl, rfl⟩ ?_
      have e1 : ldY f c kd x = true := by unfold ldY; rw [bI_0 c7]; rfl
      have e2 : ldP f c kd x = _ := if_pos c28
      rw [e1, e2]
      exact ⟨rfl, rfl, p2S, p2F⟩
  · refine sw_aload_n (pc' := 11) rfl dX1_layDown_10 rfl ?_
    refine sw_iload_n (pc' := 12) rfl dX1_layDown_11 rfl ?_
    refine sw_V (M' := MX1_holds) (d' := d - 1) (bc' := 0) (bs' := 0) (ci := 2) (as := [_]) dX1_layDown_12 w_447 ok_X1_holds (m_holds hS (by omega)) hS.1 rfl (by omega) (Nat.le_of_ble_eq_true rfl) (Nat.zero_le _) (Nat.zero_le _) (fun E h' n' _ z => det_x z) (det_k ?_)
    refine sw_if_eq (pc' := 18) (tgt := 20) rfl dX1_layDown_15 (by decide +kernel) (fun c15 => ?_) (fun c15 => ?_)
    · refine sw_aload_n (pc' := 21) rfl dX1_layDown_20 rfl ?_
      refine sw_aload_n (pc' := 22) rfl dX1_layDown_21 rfl ?_
      refine sw_getf (ci := 2) (k := 0) (pc' := 25) rfl dX1_layDown_22 (by decide +kernel) w_80 hS.1 rfl ?_
      refine sw_gets (pc' := 28) rfl dX1_layDown_25 (v := .ref 2) (by decide +kernel) w_451 ?_
      refine sw_acmp (pc' := 31) (tgt := 39) rfl dX1_layDown_28 (by decide +kernel) hK.1 (by decide +kernel) (fun c28 => ?_) (fun c28 => ?_)
      · refine sw_aload_n (pc' := 40) rfl dX1_layDown_39 rfl ?_
        refine sw_getf (ci := 2) (k := 2) (pc' := 43) rfl dX1_layDown_40 (by decide +kernel) w_83 hS.1 rfl ?_
        refine sw_iload_n (pc' := 44) rfl dX1_layDown_43 rfl ?_
        refine sw_V (M' := MX1_layAhead) (d' := d - 1) (bc' := 0) (bs' := 0) (ci := 2) (as := [_, _]) dX1_layDown_44 w_456 ok_X1_layAhead (m_layAhead (j := c) hS (Nat.le_refl _) hc) hS.1 rfl (by omega) (Nat.le_of_ble_eq_true rfl) (Nat.zero_le _) (Nat.zero_le _) (fun E h' n' _ z => shp_x z) (shp_k (fun p3 p3S p3F => ?_))
        refine sw_ret (v := some _) ⟨dX1_layDown_47, _, rfl, rfl⟩ ?_
        have e1 : ldY f c kd x = true := by unfold ldY; rw [bI_1 c7, bI_0 c15]; rfl
        have e2 : ldP f c kd x = _ := if_neg c28
        rw [e1, e2]
        exact ⟨rfl, rfl, p3S, p3F⟩
      · refine sw_aload_n (pc' := 32) rfl dX1_layDown_31 rfl ?_
        refine sw_iload_n (pc' := 33) rfl dX1_layDown_32 rfl ?_
        refine sw_V (M' := MX1_risingPlace) (d' := d - 1) (bc' := 0) (bs' := 0) (ci := 2) (as := [_]) dX1_layDown_33 w_452 ok_X1_risingPlace (m_risingPlace hS) hS.1 rfl (by omega) (Nat.le_of_ble_eq_true rfl) (Nat.zero_le _) (Nat.zero_le _) (fun E h' n' _ z => det_x z) (det_k ?_)
        refine sw_goto (tgt := 43) dX1_layDown_36 (by decide +kernel) ?_
        refine sw_iload_n (pc' := 44) rfl dX1_layDown_43 rfl ?_
        refine sw_V (M' := MX1_layAhead) (d' := d - 1) (bc' := 0) (bs' := 0) (ci := 2) (as := [_, _]) dX1_layDown_44 w_456 ok_X1_layAhead (m_layAhead (j := rpN f x 0 c) hS (by have := @rpN_at f x c 0; omega) hc) hS.1 rfl (by omega) (Nat.le_of_ble_eq_true rfl) (Nat.zero_le _) (Nat.zero_le _) (fun E h' n' _ z => shp_x z) (shp_k (fun p4 p4S p4F => ?_))
        refine sw_ret (v := some _) ⟨dX1_layDown_47, _, rfl, rfl⟩ ?_
        have e1 : ldY f c kd x = true := by unfold ldY; rw [bI_1 c7, bI_0 c15]; rfl
        have e2 : ldP f c kd x = _ := if_pos c28
        rw [e1, e2]
        exact ⟨rfl, rfl, p4S, p4F⟩
    · refine sw_iconst (pc' := 19) (v := 0) rfl dX1_layDown_18 (by decide +kernel) ?_
      refine sw_ret (v := some _) ⟨dX1_layDown_19, _, rfl, rfl⟩ ?_
      have e1 : ldY f c kd x = false := by unfold ldY; rw [bI_1 c7, bI_1 c15]; rfl
      rw [e1]
      exact ⟨rfl, rfl, hS, FrS.rf⟩
theorem l_becomeListOf {b kd c d bc bs n b2 kd2 c2 k : Nat} {h0 : AH} {f f2 : Nat → Int32} {s t z s2 t2 : Int32} (hd : 1 ≤ d) (hb : b + 2 ≤ b2 ∨ b2 + 2 ≤ b) (hk : k ≤ c2) (m : Nat) : ∀ (i : Nat) (h : AH), k + i + m = c2 → ShF h b kd (blN f f2 k i) c s t → ShF h b2 kd2 f2 c2 s2 t2 → FrS h0 h b → SW SR0 MX1_becomeListOf d bc bs 5 [(4, .int (nI (k + i))), (3, .int (nI i)), (0, .ref b), (1, .ref b2), (2, .int z)] [] h n (ShP h0 b kd none (blN f f2 k (c2 - k)) (c2 - k) (s + 1) t n) := by
  induction m with
  | zero =>
    intro i h hi hS gS hF
    have hic : c2 - k = i := by omega
    rw [hic]
    have hc2 := gS.2.2.1
    refine sw_iload (pc' := 7) rfl dX1_becomeListOf_5 rfl ?_
    refine sw_aload_n (pc' := 8) rfl dX1_becomeListOf_7 rfl ?_
    refine sw_getf (ci := 2) (k := 2) (pc' := 11) rfl dX1_becomeListOf_8 (by decide +kernel) w_83 gS.1 rfl ?_
    refine sw_icmp_ge (pc' := 14) (tgt := 41) rfl dX1_becomeListOf_11 (by decide +kernel) (fun c11 => ?_) (fun c11 => ?_)
    · refine sw_aload_n (pc' := 42) rfl dX1_becomeListOf_41 rfl ?_
      refine sw_iload_n (pc' := 43) rfl dX1_becomeListOf_42 rfl ?_
      refine sw_putf (ci := 2) (k := 2) (pc' := 46) rfl dX1_becomeListOf_43 (by decide +kernel) (by decide +kernel) w_83 rfl hS.1 hS.2.2.2 (Nat.le_of_ble_eq_true rfl) rfl rfl ?_
      refine sw_nm (fun g1 eg1 => ?_)
      have zk2 := (congrFun eg1 _).trans (up_s (h := h) (i := b))
      have zk3 := ((congrFun eg1 (b + 1)).trans (up_n (h := h) (by omega))).trans hS.2.1
      have zk4 := ((congrFun eg1 b2).trans (up_n (h := h) (by omega))).trans gS.1
      have zk5 := ((congrFun eg1 (b2 + 1)).trans (up_n (h := h) (by omega))).trans gS.2.1
      refine sw_aload_n (pc' := 47) rfl dX1_becomeListOf_46 rfl ?_
      refine sw_dup (pc' := 48) rfl dX1_becomeListOf_47 rfl ?_
      refine sw_getf (ci := 2) (k := 3) (pc' := 51) rfl dX1_becomeListOf_48 (by decide +kernel) w_87 zk2 rfl ?_
      refine sw_iconst (pc' := 52) (v := 1) rfl dX1_becomeListOf_51 (by decide +kernel) ?_
      refine sw_iadd (pc' := 53) rfl dX1_becomeListOf_52 ?_
      refine sw_putf (ci := 2) (k := 3) (pc' := 56) rfl dX1_becomeListOf_53 (by decide +kernel) (by decide +kernel) w_87 rfl zk2 hS.2.2.2 (Nat.le_of_ble_eq_true rfl) rfl rfl ?_
      refine sw_nm (fun g6 eg6 => ?_)
      have zk7 := (congrFun eg6 _).trans (up_s (h := g1) (i := b))
      have zk8 := ((congrFun eg6 (b + 1)).trans (up_n (h := g1) (by omega))).trans zk3
      have zk9 := ((congrFun eg6 b2).trans (up_n (h := g1) (by omega))).trans zk4
      have zk10 := ((congrFun eg6 (b2 + 1)).trans (up_n (h := g1) (by omega))).trans zk5
      refine sw_ret (v := none) ⟨dX1_becomeListOf_56, rfl⟩ ?_
      exact ⟨rfl, rfl, ⟨zk7, zk8, by omega, hS.2.2.2⟩, (fun i h1 h2 => (congrFun eg6 i).trans ((up_n h1).trans ((congrFun eg1 i).trans ((up_n h1).trans (hF i h1 h2)))))⟩
    · exact absurd (nI_le (by omega) (by omega)) c11
  | succ m ih =>
    intro i h hi hS gS hF
    have hc2 := gS.2.2.1
    refine sw_iload (pc' := 7) rfl dX1_becomeListOf_5 rfl ?_
    refine sw_aload_n (pc' := 8) rfl dX1_becomeListOf_7 rfl ?_
    refine sw_getf (ci := 2) (k := 2) (pc' := 11) rfl dX1_becomeListOf_8 (by decide +kernel) w_83 gS.1 rfl ?_
    refine sw_icmp_ge (pc' := 14) (tgt := 41) rfl dX1_becomeListOf_11 (by decide +kernel) (fun c11 => ?_) (fun c11 => ?_)
    · exact absurd c11 (nI_ge (by omega) (by omega))
    · refine sw_iload_n (pc' := 15) rfl dX1_becomeListOf_14 rfl ?_
      refine sw_bipush (pc' := 17) (v := 12) rfl dX1_becomeListOf_15 (by decide +kernel) ?_
      refine sw_icmp_ge (pc' := 20) (tgt := 41) rfl dX1_becomeListOf_17 (by decide +kernel) (fun c17 => ?_) (fun c17 => ?_)
      · exact absurd c17 (nI_ge (b := 12) (by omega) (by decide +kernel))
      · refine sw_aload_n (pc' := 21) rfl dX1_becomeListOf_20 rfl ?_
        refine sw_getf (ci := 2) (k := 1) (pc' := 24) rfl dX1_becomeListOf_21 (by decide +kernel) w_82 hS.1 rfl ?_
        refine sw_iload_n (pc' := 25) rfl dX1_becomeListOf_24 rfl ?_
        refine sw_aload_n (pc' := 26) rfl dX1_becomeListOf_25 rfl ?_
        refine sw_iload (pc' := 28) rfl dX1_becomeListOf_26 rfl ?_
        refine sw_V (M' := MX1_thingAt) (d' := d - 1) (bc' := 0) (bs' := 0) (ci := 2) (as := [_]) dX1_becomeListOf_28 w_220 ok_X1_thingAt (m_thingAt gS) gS.1 rfl (by omega) (Nat.le_of_ble_eq_true rfl) (Nat.zero_le _) (Nat.zero_le _) (fun E h' n' _ z => det_x z) (det_k ?_)
        refine sw_iast (pc' := 32) rfl dX1_becomeListOf_31 hS.2.1 (Nat.le_succ_of_le hS.2.2.2) rfl (by omega) (by decide +kernel) ?_
        refine sw_nm (fun g11 eg11 => ?_)
        have zk12 := (congrFun eg11 _).trans (up_s (h := h) (i := (b + 1)))
        have zk13 := ((congrFun eg11 b).trans (up_n (h := h) (by omega))).trans hS.1
        have zk14 := ((congrFun eg11 b2).trans (up_n (h := h) (by omega))).trans gS.1
        have zk15 := ((congrFun eg11 (b2 + 1)).trans (up_n (h := h) (by omega))).trans gS.2.1
        refine sw_iinc (pc' := 35) (lv' := [(3, _), (4, _), (0, _), (1, _), (2, _)]) (v := nI (i + 1)) rfl dX1_becomeListOf_32 rfl (nI_succ i).symm (by decide +kernel) rfl ?_
        refine sw_iinc (pc' := 38) (lv' := [(4, _), (3, _), (0, _), (1, _), (2, _)]) (v := nI (k + (i + 1))) rfl dX1_becomeListOf_35 rfl (nI_succ (k + i)).symm (by decide +kernel) rfl ?_
        refine sw_goto (tgt := 5) dX1_becomeListOf_38 (by decide +kernel) ?_
        exact ih (i + 1) g11 (by omega) ⟨zk13, blN_s ▸ (taI_in (f := f2) (c := c2) (j := k + i) (by omega) hc2) ▸ zk12, hS.2.2⟩ ⟨zk14, zk15, gS.2.2⟩ (fun i h1 h2 => (congrFun eg11 i).trans ((up_n h2).trans (hF i h1 h2)))
theorem m_becomeListOf {b kd c d bc bs n b2 kd2 c2 k : Nat} {h : AH} {f f2 : Nat → Int32} {s t s2 t2 : Int32} (hS : ShF h b kd f c s t) (gS : ShF h b2 kd2 f2 c2 s2 t2) (hd : 1 ≤ d) (hb : b + 2 ≤ b2 ∨ b2 + 2 ≤ b) (hk : k ≤ c2) : SM SR0 MX1_becomeListOf d bc bs [.ref b, .ref b2, .int (nI k)] h n (ShP h b kd none (blN f f2 k (c2 - k)) (c2 - k) (s + 1) t n) := by
  refine sm_of pn_Overwalks_Shelf rfl (Nat.le_of_ble_eq_true rfl) ?_
  refine sw_iconst (pc' := 1) (v := 0) rfl dX1_becomeListOf_0 (by decide +kernel) ?_
  refine sw_istore_n (pc' := 2) (lv' := [(3, _), (0, _), (1, _), (2, _)]) rfl dX1_becomeListOf_1 (by decide +kernel) rfl ?_
  refine sw_iload_n (pc' := 3) rfl dX1_becomeListOf_2 rfl ?_
  refine sw_istore (pc' := 5) (lv' := [(4, _), (3, _), (0, _), (1, _), (2, _)]) rfl dX1_becomeListOf_3 (by decide +kernel) rfl ?_
  exact l_becomeListOf hd hb hk (c2 - k) 0 h (by omega) (by rw [blN_0]; exact hS) gS FrS.rf
theorem l_becomeListOfS {h0 : AH} {z : Int32} {b kd c d bc bs n : Nat} {f : Nat → Int32} {s t : Int32} (hd : 1 ≤ d) (m : Nat) : ∀ (i : Nat) (h : AH), i + m = c → ShF h b kd f c s t → FrS h0 h b → SW SR0 MX1_becomeListOf d bc bs 5 [(4, .int (nI i)), (3, .int (nI i)), (0, .ref b), (1, .ref b), (2, .int z)] [] h n (ShP h0 b kd none f c (s + 1) t n) := by
  induction m with
  | zero =>
    intro i h hi hS hF
    have hic : i = c := by omega
    subst hic
    have hc := hS.2.2.1
    refine sw_iload (pc' := 7) rfl dX1_becomeListOf_5 rfl ?_
    refine sw_aload_n (pc' := 8) rfl dX1_becomeListOf_7 rfl ?_
    refine sw_getf (ci := 2) (k := 2) (pc' := 11) rfl dX1_becomeListOf_8 (by decide +kernel) w_83 hS.1 rfl ?_
    refine sw_icmp_ge (pc' := 14) (tgt := 41) rfl dX1_becomeListOf_11 (by decide +kernel) (fun c11 => ?_) (fun c11 => ?_)
    · refine sw_aload_n (pc' := 42) rfl dX1_becomeListOf_41 rfl ?_
      refine sw_iload_n (pc' := 43) rfl dX1_becomeListOf_42 rfl ?_
      refine sw_putf (ci := 2) (k := 2) (pc' := 46) rfl dX1_becomeListOf_43 (by decide +kernel) (by decide +kernel) w_83 rfl hS.1 hS.2.2.2 (Nat.le_of_ble_eq_true rfl) rfl rfl ?_
      refine sw_nm (fun g16 eg16 => ?_)
      have zk17 := (congrFun eg16 _).trans (up_s (h := h) (i := b))
      have zk18 := ((congrFun eg16 (b + 1)).trans (up_n (h := h) (by omega))).trans hS.2.1
      refine sw_aload_n (pc' := 47) rfl dX1_becomeListOf_46 rfl ?_
      refine sw_dup (pc' := 48) rfl dX1_becomeListOf_47 rfl ?_
      refine sw_getf (ci := 2) (k := 3) (pc' := 51) rfl dX1_becomeListOf_48 (by decide +kernel) w_87 zk17 rfl ?_
      refine sw_iconst (pc' := 52) (v := 1) rfl dX1_becomeListOf_51 (by decide +kernel) ?_
      refine sw_iadd (pc' := 53) rfl dX1_becomeListOf_52 ?_
      refine sw_putf (ci := 2) (k := 3) (pc' := 56) rfl dX1_becomeListOf_53 (by decide +kernel) (by decide +kernel) w_87 rfl zk17 hS.2.2.2 (Nat.le_of_ble_eq_true rfl) rfl rfl ?_
      refine sw_nm (fun g19 eg19 => ?_)
      have zk20 := (congrFun eg19 _).trans (up_s (h := g16) (i := b))
      have zk21 := ((congrFun eg19 (b + 1)).trans (up_n (h := g16) (by omega))).trans zk18
      refine sw_ret (v := none) ⟨dX1_becomeListOf_56, rfl⟩ ?_
      exact ⟨rfl, rfl, ⟨zk20, zk21, by omega, hS.2.2.2⟩, (fun i h1 h2 => (congrFun eg19 i).trans ((up_n h1).trans ((congrFun eg16 i).trans ((up_n h1).trans (hF i h1 h2)))))⟩
    · exact absurd (Int32.le_refl _) c11
  | succ m ih =>
    intro i h hi hS hF
    have hc := hS.2.2.1
    refine sw_iload (pc' := 7) rfl dX1_becomeListOf_5 rfl ?_
    refine sw_aload_n (pc' := 8) rfl dX1_becomeListOf_7 rfl ?_
    refine sw_getf (ci := 2) (k := 2) (pc' := 11) rfl dX1_becomeListOf_8 (by decide +kernel) w_83 hS.1 rfl ?_
    refine sw_icmp_ge (pc' := 14) (tgt := 41) rfl dX1_becomeListOf_11 (by decide +kernel) (fun c11 => ?_) (fun c11 => ?_)
    · exact absurd c11 (nI_ge (by omega) (by omega))
    · refine sw_iload_n (pc' := 15) rfl dX1_becomeListOf_14 rfl ?_
      refine sw_bipush (pc' := 17) (v := 12) rfl dX1_becomeListOf_15 (by decide +kernel) ?_
      refine sw_icmp_ge (pc' := 20) (tgt := 41) rfl dX1_becomeListOf_17 (by decide +kernel) (fun c17 => ?_) (fun c17 => ?_)
      · exact absurd c17 (nI_ge (b := 12) (by omega) (by decide +kernel))
      · refine sw_aload_n (pc' := 21) rfl dX1_becomeListOf_20 rfl ?_
        refine sw_getf (ci := 2) (k := 1) (pc' := 24) rfl dX1_becomeListOf_21 (by decide +kernel) w_82 hS.1 rfl ?_
        refine sw_iload_n (pc' := 25) rfl dX1_becomeListOf_24 rfl ?_
        refine sw_aload_n (pc' := 26) rfl dX1_becomeListOf_25 rfl ?_
        refine sw_iload (pc' := 28) rfl dX1_becomeListOf_26 rfl ?_
        refine sw_V (M' := MX1_thingAt) (d' := d - 1) (bc' := 0) (bs' := 0) (ci := 2) (as := [_]) dX1_becomeListOf_28 w_220 ok_X1_thingAt (m_thingAt hS) hS.1 rfl (by omega) (Nat.le_of_ble_eq_true rfl) (Nat.zero_le _) (Nat.zero_le _) (fun E h' n' _ z => det_x z) (det_k ?_)
        refine sw_iast (pc' := 32) rfl dX1_becomeListOf_31 hS.2.1 (Nat.le_succ_of_le hS.2.2.2) rfl (by omega) (by decide +kernel) ?_
        refine sw_nm (fun g22 eg22 => ?_)
        have zk23 := (congrFun eg22 _).trans (up_s (h := h) (i := (b + 1)))
        have zk24 := ((congrFun eg22 b).trans (up_n (h := h) (by omega))).trans hS.1
        refine sw_iinc (pc' := 35) (lv' := [(3, _), (4, _), (0, _), (1, _), (2, _)]) (v := nI (i + 1)) rfl dX1_becomeListOf_32 rfl (nI_succ i).symm (by decide +kernel) rfl ?_
        refine sw_iinc (pc' := 38) (lv' := [(4, _), (3, _), (0, _), (1, _), (2, _)]) (v := nI (i + 1)) rfl dX1_becomeListOf_35 rfl (nI_succ i).symm (by decide +kernel) rfl ?_
        refine sw_goto (tgt := 5) dX1_becomeListOf_38 (by decide +kernel) ?_
        exact ih (i + 1) g22 (by omega) ⟨zk24, (show up f i (taI f c (nI i)) = f from by rw [taI_in (by omega) hc]; exact up_id) ▸ zk23, hS.2.2⟩ (fun i h1 h2 => (congrFun eg22 i).trans ((up_n h2).trans (hF i h1 h2)))
theorem m_becomeListOfS {h : AH} {b kd c d bc bs n : Nat} {f : Nat → Int32} {s t : Int32} (hS : ShF h b kd f c s t) (hd : 1 ≤ d) : SM SR0 MX1_becomeListOf d bc bs [.ref b, .ref b, .int 0] h n (ShP h b kd none f c (s + 1) t n) := by
  refine sm_of pn_Overwalks_Shelf rfl (Nat.le_of_ble_eq_true rfl) ?_
  refine sw_iconst (pc' := 1) (v := 0) rfl dX1_becomeListOf_0 (by decide +kernel) ?_
  refine sw_istore_n (pc' := 2) (lv' := [(3, _), (0, _), (1, _), (2, _)]) rfl dX1_becomeListOf_1 (by decide +kernel) rfl ?_
  refine sw_iload_n (pc' := 3) rfl dX1_becomeListOf_2 rfl ?_
  refine sw_istore (pc' := 5) (lv' := [(4, _), (3, _), (0, _), (1, _), (2, _)]) rfl dX1_becomeListOf_3 (by decide +kernel) rfl ?_
  exact l_becomeListOfS hd c 0 h (by omega) hS FrS.rf
end
section
/-! 15.walk -/
/-! Walk: its picture, its methods -/
def WkF (h : AH) (w : Nat) (mk : Bool) (b : Nat) (sh hw gi tk ss ts : Int32) (la : Bool) : Prop := h w = .inr (3, [.int (bI mk), .ref b, .int sh, .int hw, .int gi, .int tk, .int ss, .int ts, .int (bI la)]) ∧ nC ≤ w
def FrW (h h' : AH) (w : Nat) : Prop := ∀ i, i ≠ w → h' i = h i
theorem FrW.rf {h : AH} {b : Nat} : FrW h h b := fun _ _ => rfl
theorem FrW.tr {h h1 h2 : AH} {b : Nat} (a : FrW h h1 b) (c : FrW h1 h2 b) : FrW h h2 b := fun i p => (c i p).trans (a i p)
def WkP (h : AH) (w : Nat) (r : Option Value) (mk : Bool) (b : Nat) (sh hw gi tk ss ts : Int32) (la : Bool) (n : Nat) : ARes → AH → Nat → Prop := fun r' h' n' => r' = .inl r ∧ n' = n ∧ WkF h' w mk b sh hw gi tk ss ts la ∧ FrW h h' w
theorem wkp_k {A : Nat → AH → Option Value → Prop} {h : AH} {w b n n0 : Nat} {mk la : Bool} {r : Option Value} {sh hw gi tk ss ts : Int32} (k : ∀ h', WkF h' w mk b sh hw gi tk ss ts la → FrW h h' w → A n h' r) : ∀ (v : Option Value) (h' : AH) (n' : Nat), n0 ≤ n' → WkP h w r mk b sh hw gi tk ss ts la n (.inl v) h' n' → A n' h' v := by
  rintro v h' n' - ⟨e, rfl, g1, g2⟩
  cases e
  exact k h' g1 g2
theorem wkp_x {A : Prop} {h : AH} {w b n : Nat} {mk la : Bool} {r : Option Value} {sh hw gi tk ss ts : Int32} {E : String} {h' : AH} {n' : Nat} (z : WkP h w r mk b sh hw gi tk ss ts la n (.inr E) h' n') : A := by cases z.1
theorem ShF.frW {h h' : AH} {w b kd c : Nat} {f : Nat → Int32} {s t : Int32} (hS : ShF h b kd f c s t) (hF : FrW h h' w) (h1 : b ≠ w ∧ b + 1 ≠ w) : ShF h' b kd f c s t := ⟨(hF _ h1.1).trans hS.1, (hF _ h1.2).trans hS.2.1, hS.2.2⟩
theorem KdF.frW {h h' : AH} {k w : Nat} (hK : KdF h k) (hF : FrW h h' w) (hb : nC ≤ w) : KdF h' k := by
  have hb2 : 100 ≤ w := hb
  have h1 := hK.1
  exact ⟨hK.1, (hF k (by omega)).trans hK.2⟩
theorem WkF.frS {h h' : AH} {w b2 b : Nat} {mk la : Bool} {sh hw gi tk ss ts : Int32} (hW : WkF h w mk b sh hw gi tk ss ts la) (hF : FrS h h' b2) (h1 : w ≠ b2 ∧ w ≠ b2 + 1) : WkF h' w mk b sh hw gi tk ss ts la := ⟨(hF _ h1.1 h1.2).trans hW.1, hW.2⟩
theorem WkF.frW {h h' : AH} {w w2 b : Nat} {mk la : Bool} {sh hw gi tk ss ts : Int32} (hW : WkF h w mk b sh hw gi tk ss ts la) (hF : FrW h h' w2) (h1 : w ≠ w2) : WkF h' w mk b sh hw gi tk ss ts la := ⟨(hF _ h1).trans hW.1, hW.2⟩
/-- not stale, and something is ahead -/
def hmB (c : Nat) (s gi tk ss : Int32) : Bool := !decide (s ≠ ss) && decide (gi - tk < nI c)
/-- how many of m steps are made -/
def guN (c : Nat) (s tk ss : Int32) : Int32 → Nat → Nat
  | _, 0 => 0
  | gi, m + 1 => if hmB c s gi tk ss then guN c s tk ss (gi + 1) m + 1 else 0
theorem guN_le {c : Nat} {s tk ss : Int32} {m : Nat} : ∀ {gi : Int32}, guN c s tk ss gi m ≤ m := by
  induction m with
  | zero => intro gi; exact Nat.le_refl _
  | succ m ih =>
    intro gi
    unfold guN
    split
    · exact Nat.succ_le_succ ih
    · exact Nat.zero_le _
theorem nI_add1 (x : Int32) (k : Nat) : x + 1 + nI k = x + nI (k + 1) := by
  rw [Int32.add_assoc, show (1 : Int32) = nI 1 from rfl, nI_add, Nat.add_comm 1 k]
theorem m_isStale {h : AH} {b kd c d bc bs n w : Nat} {f : Nat → Int32} {s t sh hw gi tk ss ts : Int32} {mk la : Bool} (hW : WkF h w mk b sh hw gi tk ss ts la) (hS : ShF h b kd f c s t) : SM SR0 MX2_isStale d bc bs [.ref w] h n (Det (.inl (some (.int (bI (decide (s ≠ ss)))))) h n) := by
  refine sm_of pn_Overwalks_Walk rfl (Nat.le_of_ble_eq_true rfl) ?_
  refine sw_aload_n (pc' := 1) rfl dX2_isStale_0 rfl ?_
  refine sw_getf (ci := 3) (k := 1) (pc' := 4) rfl dX2_isStale_1 (by decide +kernel) w_119 hW.1 rfl ?_
  refine sw_getf (ci := 2) (k := 3) (pc' := 7) rfl dX2_isStale_4 (by decide +kernel) w_86 hS.1 rfl ?_
  refine sw_aload_n (pc' := 8) rfl dX2_isStale_7 rfl ?_
  refine sw_getf (ci := 3) (k := 6) (pc' := 11) rfl dX2_isStale_8 (by decide +kernel) w_128 hW.1 rfl ?_
  refine sw_icmp_eq (pc' := 14) (tgt := 18) rfl dX2_isStale_11 (by decide +kernel) (fun c11 => ?_) (fun c11 => ?_)
  · refine sw_iconst (pc' := 19) (v := 0) rfl dX2_isStale_18 (by decide +kernel) ?_
    refine sw_ret (v := some _) ⟨dX2_isStale_19, _, rfl, rfl⟩ ?_
    exact ⟨by rw [decide_eq_false (fun q => q c11)]; rfl, rfl, rfl⟩
  · refine sw_iconst (pc' := 15) (v := 1) rfl dX2_isStale_14 (by decide +kernel) ?_
    refine sw_goto (tgt := 19) dX2_isStale_15 (by decide +kernel) ?_
    refine sw_ret (v := some _) ⟨dX2_isStale_19, _, rfl, rfl⟩ ?_
    exact ⟨by rw [decide_eq_true c11]; rfl, rfl, rfl⟩
theorem m_ahead {h : AH} {b d bc bs n w : Nat} {sh hw gi tk ss ts : Int32} {mk la : Bool} (hW : WkF h w mk b sh hw gi tk ss ts la) : SM SR0 MX2_ahead d bc bs [.ref w] h n (Det (.inl (some (.int (gi - tk)))) h n) := by
  refine sm_of pn_Overwalks_Walk rfl (Nat.le_of_ble_eq_true rfl) ?_
  refine sw_aload_n (pc' := 1) rfl dX2_ahead_0 rfl ?_
  refine sw_getf (ci := 3) (k := 4) (pc' := 4) rfl dX2_ahead_1 (by decide +kernel) w_125 hW.1 rfl ?_
  refine sw_aload_n (pc' := 5) rfl dX2_ahead_4 rfl ?_
  refine sw_getf (ci := 3) (k := 5) (pc' := 8) rfl dX2_ahead_5 (by decide +kernel) w_127 hW.1 rfl ?_
  refine sw_isub (pc' := 9) rfl dX2_ahead_8 ?_
  refine sw_ret (v := some _) ⟨dX2_ahead_9, _, rfl, rfl⟩ ?_
  exact ⟨rfl, rfl, rfl⟩
theorem m_hasMore {h : AH} {b kd c d bc bs n w : Nat} {f : Nat → Int32} {s t sh hw gi tk ss ts : Int32} {mk la : Bool} (hW : WkF h w mk b sh hw gi tk ss ts la) (hS : ShF h b kd f c s t) (hd : 1 ≤ d) : SM SR0 MX2_hasMore d bc bs [.ref w] h n (Det (.inl (some (.int (bI (hmB c s gi tk ss))))) h n) := by
  refine sm_of pn_Overwalks_Walk rfl (Nat.le_of_ble_eq_true rfl) ?_
  refine sw_aload_n (pc' := 1) rfl dX2_hasMore_0 rfl ?_
  refine sw_V (M' := MX2_isStale) (d' := d - 1) (bc' := 0) (bs' := 0) (ci := 3) (as := []) dX2_hasMore_1 w_192 ok_X2_isStale (m_isStale hW hS) hW.1 rfl (by omega) (Nat.le_of_ble_eq_true rfl) (Nat.zero_le _) (Nat.zero_le _) (fun E h' n' _ z => det_x z) (det_k ?_)
  refine sw_if_ne (pc' := 7) (tgt := 25) rfl dX2_hasMore_4 (by decide +kernel) (fun c4 => ?_) (fun c4 => ?_)
  · refine sw_iconst (pc' := 26) (v := 0) rfl dX2_hasMore_25 (by decide +kernel) ?_
    refine sw_ret (v := some _) ⟨dX2_hasMore_26, _, rfl, rfl⟩ ?_
    exact ⟨by rw [hmB, bI_1 c4]; rfl, rfl, rfl⟩
  · refine sw_aload_n (pc' := 8) rfl dX2_hasMore_7 rfl ?_
    refine sw_V (M' := MX2_ahead) (d' := d - 1) (bc' := 0) (bs' := 0) (ci := 3) (as := []) dX2_hasMore_8 w_196 ok_X2_ahead (m_ahead hW) hW.1 rfl (by omega) (Nat.le_of_ble_eq_true rfl) (Nat.zero_le _) (Nat.zero_le _) (fun E h' n' _ z => det_x z) (det_k ?_)
    refine sw_aload_n (pc' := 12) rfl dX2_hasMore_11 rfl ?_
    refine sw_getf (ci := 3) (k := 1) (pc' := 15) rfl dX2_hasMore_12 (by decide +kernel) w_119 hW.1 rfl ?_
    refine sw_getf (ci := 2) (k := 2) (pc' := 18) rfl dX2_hasMore_15 (by decide +kernel) w_85 hS.1 rfl ?_
    refine sw_icmp_ge (pc' := 21) (tgt := 25) rfl dX2_hasMore_18 (by decide +kernel) (fun c18 => ?_) (fun c18 => ?_)
    · refine sw_iconst (pc' := 26) (v := 0) rfl dX2_hasMore_25 (by decide +kernel) ?_
      refine sw_ret (v := some _) ⟨dX2_hasMore_26, _, rfl, rfl⟩ ?_
      exact ⟨by rw [hmB, decide_eq_false (Int32.not_lt.mpr c18), Bool.and_false]; rfl, rfl, rfl⟩
    · refine sw_iconst (pc' := 22) (v := 1) rfl dX2_hasMore_21 (by decide +kernel) ?_
      refine sw_goto (tgt := 26) dX2_hasMore_22 (by decide +kernel) ?_
      refine sw_ret (v := some _) ⟨dX2_hasMore_26, _, rfl, rfl⟩ ?_
      exact ⟨by rw [hmB, bI_0 c4, decide_eq_true (Int32.not_le.mp c18)]; rfl, rfl, rfl⟩
theorem m_canGiveAll {h : AH} {b kd c d bc bs n w : Nat} {f : Nat → Int32} {s t sh hw gi tk ss ts : Int32} {mk la : Bool} (hW : WkF h w mk b sh hw gi tk ss ts la) (hS : ShF h b kd f c s t) (hd : 1 ≤ d) : SM SR0 MX2_canGiveAll d bc bs [.ref w] h n (Det (.inl (some (.int (bI (!decide (s ≠ ss) && decide (hw ≠ 1)))))) h n) := by
  refine sm_of pn_Overwalks_Walk rfl (Nat.le_of_ble_eq_true rfl) ?_
  refine sw_aload_n (pc' := 1) rfl dX2_canGiveAll_0 rfl ?_
  refine sw_V (M' := MX2_isStale) (d' := d - 1) (bc' := 0) (bs' := 0) (ci := 3) (as := []) dX2_canGiveAll_1 w_192 ok_X2_isStale (m_isStale hW hS) hW.1 rfl (by omega) (Nat.le_of_ble_eq_true rfl) (Nat.zero_le _) (Nat.zero_le _) (fun E h' n' _ z => det_x z) (det_k ?_)
  refine sw_if_ne (pc' := 7) (tgt := 19) rfl dX2_canGiveAll_4 (by decide +kernel) (fun c4 => ?_) (fun c4 => ?_)
  · refine sw_iconst (pc' := 20) (v := 0) rfl dX2_canGiveAll_19 (by decide +kernel) ?_
    refine sw_ret (v := some _) ⟨dX2_canGiveAll_20, _, rfl, rfl⟩ ?_
    exact ⟨by rw [bI_1 c4]; rfl, rfl, rfl⟩
  · refine sw_aload_n (pc' := 8) rfl dX2_canGiveAll_7 rfl ?_
    refine sw_getf (ci := 3) (k := 3) (pc' := 11) rfl dX2_canGiveAll_8 (by decide +kernel) w_123 hW.1 rfl ?_
    refine sw_iconst (pc' := 12) (v := 1) rfl dX2_canGiveAll_11 (by decide +kernel) ?_
    refine sw_icmp_eq (pc' := 15) (tgt := 19) rfl dX2_canGiveAll_12 (by decide +kernel) (fun c12 => ?_) (fun c12 => ?_)
    · refine sw_iconst (pc' := 20) (v := 0) rfl dX2_canGiveAll_19 (by decide +kernel) ?_
      refine sw_ret (v := some _) ⟨dX2_canGiveAll_20, _, rfl, rfl⟩ ?_
      exact ⟨by rw [show decide (hw ≠ 1) = false from decide_eq_false (fun q => q c12), Bool.and_false]; rfl, rfl, rfl⟩
    · refine sw_iconst (pc' := 16) (v := 1) rfl dX2_canGiveAll_15 (by decide +kernel) ?_
      refine sw_goto (tgt := 20) dX2_canGiveAll_16 (by decide +kernel) ?_
      refine sw_ret (v := some _) ⟨dX2_canGiveAll_20, _, rfl, rfl⟩ ?_
      exact ⟨by rw [bI_0 c4, decide_eq_true c12]; rfl, rfl, rfl⟩
theorem m_canTakeOut {h : AH} {b kd c d bc bs n w : Nat} {f : Nat → Int32} {s t sh hw gi tk ss ts : Int32} {mk la : Bool} (hW : WkF h w mk b sh hw gi tk ss ts la) (hS : ShF h b kd f c s t) : SM SR0 MX2_canTakeOut d bc bs [.ref w] h n (Det (.inl (some (.int (bI (la && decide (t = ts)))))) h n) := by
  refine sm_of pn_Overwalks_Walk rfl (Nat.le_of_ble_eq_true rfl) ?_
  refine sw_aload_n (pc' := 1) rfl dX2_canTakeOut_0 rfl ?_
  refine sw_getf (ci := 3) (k := 8) (pc' := 4) rfl dX2_canTakeOut_1 (by decide +kernel) w_130 hW.1 rfl ?_
  refine sw_if_eq (pc' := 7) (tgt := 25) rfl dX2_canTakeOut_4 (by decide +kernel) (fun c4 => ?_) (fun c4 => ?_)
  · refine sw_iconst (pc' := 26) (v := 0) rfl dX2_canTakeOut_25 (by decide +kernel) ?_
    refine sw_ret (v := some _) ⟨dX2_canTakeOut_26, _, rfl, rfl⟩ ?_
    exact ⟨by rw [bI_0 c4]; rfl, rfl, rfl⟩
  · refine sw_aload_n (pc' := 8) rfl dX2_canTakeOut_7 rfl ?_
    refine sw_getf (ci := 3) (k := 1) (pc' := 11) rfl dX2_canTakeOut_8 (by decide +kernel) w_119 hW.1 rfl ?_
    refine sw_getf (ci := 2) (k := 4) (pc' := 14) rfl dX2_canTakeOut_11 (by decide +kernel) w_88 hS.1 rfl ?_
    refine sw_aload_n (pc' := 15) rfl dX2_canTakeOut_14 rfl ?_
    refine sw_getf (ci := 3) (k := 7) (pc' := 18) rfl dX2_canTakeOut_15 (by decide +kernel) w_129 hW.1 rfl ?_
    refine sw_icmp_ne (pc' := 21) (tgt := 25) rfl dX2_canTakeOut_18 (by decide +kernel) (fun c18 => ?_) (fun c18 => ?_)
    · refine sw_iconst (pc' := 26) (v := 0) rfl dX2_canTakeOut_25 (by decide +kernel) ?_
      refine sw_ret (v := some _) ⟨dX2_canTakeOut_26, _, rfl, rfl⟩ ?_
      exact ⟨by rw [decide_eq_false c18, Bool.and_false]; rfl, rfl, rfl⟩
    · refine sw_iconst (pc' := 22) (v := 1) rfl dX2_canTakeOut_21 (by decide +kernel) ?_
      refine sw_goto (tgt := 26) dX2_canTakeOut_22 (by decide +kernel) ?_
      refine sw_ret (v := some _) ⟨dX2_canTakeOut_26, _, rfl, rfl⟩ ?_
      exact ⟨by rw [bI_1 c4, decide_eq_true c18]; rfl, rfl, rfl⟩
theorem m_give {h : AH} {b kd c d bc bs n w : Nat} {f : Nat → Int32} {s t sh hw gi tk ss ts : Int32} {mk la : Bool} (hW : WkF h w mk b sh hw gi tk ss ts la) (hS : ShF h b kd f c s t) (hne : b ≠ w ∧ b + 1 ≠ w) (hd : 1 ≤ d) : SM SR0 MX2_give d bc bs [.ref w] h n (WkP h w (some (.int (taI f c (gi - tk)))) mk b sh hw (gi + 1) tk ss t true n) := by
  refine sm_of pn_Overwalks_Walk rfl (Nat.le_of_ble_eq_true rfl) ?_
  refine sw_aload_n (pc' := 1) rfl dX2_give_0 rfl ?_
  refine sw_getf (ci := 3) (k := 1) (pc' := 4) rfl dX2_give_1 (by decide +kernel) w_119 hW.1 rfl ?_
  refine sw_aload_n (pc' := 5) rfl dX2_give_4 rfl ?_
  refine sw_V (M' := MX2_ahead) (d' := d - 1) (bc' := 0) (bs' := 0) (ci := 3) (as := []) dX2_give_5 w_196 ok_X2_ahead (m_ahead hW) hW.1 rfl (by omega) (Nat.le_of_ble_eq_true rfl) (Nat.zero_le _) (Nat.zero_le _) (fun E h' n' _ z => det_x z) (det_k ?_)
  refine sw_V (M' := MX1_thingAt) (d' := d - 1) (bc' := 0) (bs' := 0) (ci := 2) (as := [_]) dX2_give_8 w_204 ok_X1_thingAt (m_thingAt hS) hS.1 rfl (by omega) (Nat.le_of_ble_eq_true rfl) (Nat.zero_le _) (Nat.zero_le _) (fun E h' n' _ z => det_x z) (det_k ?_)
  refine sw_istore_n (pc' := 12) (lv' := [(1, _), (0, _)]) rfl dX2_give_11 (by decide +kernel) rfl ?_
  refine sw_aload_n (pc' := 13) rfl dX2_give_12 rfl ?_
  refine sw_dup (pc' := 14) rfl dX2_give_13 rfl ?_
  refine sw_getf (ci := 3) (k := 4) (pc' := 17) rfl dX2_give_14 (by decide +kernel) w_125 hW.1 rfl ?_
  refine sw_iconst (pc' := 18) (v := 1) rfl dX2_give_17 (by decide +kernel) ?_
  refine sw_iadd (pc' := 19) rfl dX2_give_18 ?_
  refine sw_putf (ci := 3) (k := 4) (pc' := 22) rfl dX2_give_19 (by decide +kernel) (by decide +kernel) w_125 rfl hW.1 hW.2 (Nat.le_of_ble_eq_true rfl) rfl rfl ?_
  refine sw_nm (fun g1 eg1 => ?_)
  have zk2 := (congrFun eg1 _).trans (up_s (h := h) (i := w))
  have zk3 := ((congrFun eg1 b).trans (up_n (h := h) (by omega))).trans hS.1
  have zk4 := ((congrFun eg1 (b + 1)).trans (up_n (h := h) (by omega))).trans hS.2.1
  refine sw_aload_n (pc' := 23) rfl dX2_give_22 rfl ?_
  refine sw_iconst (pc' := 24) (v := 1) rfl dX2_give_23 (by decide +kernel) ?_
  refine sw_putf (ci := 3) (k := 8) (pc' := 27) rfl dX2_give_24 (by decide +kernel) (by decide +kernel) w_130 rfl zk2 hW.2 (Nat.le_of_ble_eq_true rfl) rfl rfl ?_
  refine sw_nm (fun g5 eg5 => ?_)
  have zk6 := (congrFun eg5 _).trans (up_s (h := g1) (i := w))
  have zk7 := ((congrFun eg5 b).trans (up_n (h := g1) (by omega))).trans zk3
  have zk8 := ((congrFun eg5 (b + 1)).trans (up_n (h := g1) (by omega))).trans zk4
  refine sw_aload_n (pc' := 28) rfl dX2_give_27 rfl ?_
  refine sw_aload_n (pc' := 29) rfl dX2_give_28 rfl ?_
  refine sw_getf (ci := 3) (k := 1) (pc' := 32) rfl dX2_give_29 (by decide +kernel) w_119 zk6 rfl ?_
  refine sw_getf (ci := 2) (k := 4) (pc' := 35) rfl dX2_give_32 (by decide +kernel) w_88 zk7 rfl ?_
  refine sw_putf (ci := 3) (k := 7) (pc' := 38) rfl dX2_give_35 (by decide +kernel) (by decide +kernel) w_129 rfl zk6 hW.2 (Nat.le_of_ble_eq_true rfl) rfl rfl ?_
  refine sw_nm (fun g9 eg9 => ?_)
  have zk10 := (congrFun eg9 _).trans (up_s (h := g5) (i := w))
  have zk11 := ((congrFun eg9 b).trans (up_n (h := g5) (by omega))).trans zk7
  have zk12 := ((congrFun eg9 (b + 1)).trans (up_n (h := g5) (by omega))).trans zk8
  refine sw_iload_n (pc' := 39) rfl dX2_give_38 rfl ?_
  refine sw_ret (v := some _) ⟨dX2_give_39, _, rfl, rfl⟩ ?_
  exact ⟨rfl, rfl, ⟨zk10, hW.2⟩, (fun i h1 => (congrFun eg9 i).trans ((up_n h1).trans ((congrFun eg5 i).trans ((up_n h1).trans ((congrFun eg1 i).trans ((up_n h1).trans (rfl)))))))⟩
theorem m_tookOut {h : AH} {b kd c d bc bs n w : Nat} {f : Nat → Int32} {s t sh hw gi tk ss ts : Int32} {mk la : Bool} (hW : WkF h w mk b sh hw gi tk ss ts la) (hS : ShF h b kd f c s t) (hne : b ≠ w ∧ b + 1 ≠ w) : SM SR0 MX2_tookOut d bc bs [.ref w] h n (WkP h w none mk b sh hw gi (tk + 1) s ts false n) := by
  refine sm_of pn_Overwalks_Walk rfl (Nat.le_of_ble_eq_true rfl) ?_
  refine sw_aload_n (pc' := 1) rfl dX2_tookOut_0 rfl ?_
  refine sw_dup (pc' := 2) rfl dX2_tookOut_1 rfl ?_
  refine sw_getf (ci := 3) (k := 5) (pc' := 5) rfl dX2_tookOut_2 (by decide +kernel) w_127 hW.1 rfl ?_
  refine sw_iconst (pc' := 6) (v := 1) rfl dX2_tookOut_5 (by decide +kernel) ?_
  refine sw_iadd (pc' := 7) rfl dX2_tookOut_6 ?_
  refine sw_putf (ci := 3) (k := 5) (pc' := 10) rfl dX2_tookOut_7 (by decide +kernel) (by decide +kernel) w_127 rfl hW.1 hW.2 (Nat.le_of_ble_eq_true rfl) rfl rfl ?_
  refine sw_nm (fun g1 eg1 => ?_)
  have zk2 := (congrFun eg1 _).trans (up_s (h := h) (i := w))
  have zk3 := ((congrFun eg1 b).trans (up_n (h := h) (by omega))).trans hS.1
  have zk4 := ((congrFun eg1 (b + 1)).trans (up_n (h := h) (by omega))).trans hS.2.1
  refine sw_aload_n (pc' := 11) rfl dX2_tookOut_10 rfl ?_
  refine sw_iconst (pc' := 12) (v := 0) rfl dX2_tookOut_11 (by decide +kernel) ?_
  refine sw_putf (ci := 3) (k := 8) (pc' := 15) rfl dX2_tookOut_12 (by decide +kernel) (by decide +kernel) w_130 rfl zk2 hW.2 (Nat.le_of_ble_eq_true rfl) rfl rfl ?_
  refine sw_nm (fun g5 eg5 => ?_)
  have zk6 := (congrFun eg5 _).trans (up_s (h := g1) (i := w))
  have zk7 := ((congrFun eg5 b).trans (up_n (h := g1) (by omega))).trans zk3
  have zk8 := ((congrFun eg5 (b + 1)).trans (up_n (h := g1) (by omega))).trans zk4
  refine sw_aload_n (pc' := 16) rfl dX2_tookOut_15 rfl ?_
  refine sw_aload_n (pc' := 17) rfl dX2_tookOut_16 rfl ?_
  refine sw_getf (ci := 3) (k := 1) (pc' := 20) rfl dX2_tookOut_17 (by decide +kernel) w_119 zk6 rfl ?_
  refine sw_getf (ci := 2) (k := 3) (pc' := 23) rfl dX2_tookOut_20 (by decide +kernel) w_86 zk7 rfl ?_
  refine sw_putf (ci := 3) (k := 6) (pc' := 26) rfl dX2_tookOut_23 (by decide +kernel) (by decide +kernel) w_128 rfl zk6 hW.2 (Nat.le_of_ble_eq_true rfl) rfl rfl ?_
  refine sw_nm (fun g9 eg9 => ?_)
  have zk10 := (congrFun eg9 _).trans (up_s (h := g5) (i := w))
  have zk11 := ((congrFun eg9 b).trans (up_n (h := g5) (by omega))).trans zk7
  have zk12 := ((congrFun eg9 (b + 1)).trans (up_n (h := g5) (by omega))).trans zk8
  refine sw_ret (v := none) ⟨dX2_tookOut_26, rfl⟩ ?_
  exact ⟨rfl, rfl, ⟨zk10, hW.2⟩, (fun i h1 => (congrFun eg9 i).trans ((up_n h1).trans ((congrFun eg5 i).trans ((up_n h1).trans ((congrFun eg1 i).trans ((up_n h1).trans (rfl)))))))⟩
theorem m_begin {h : AH} {b kd c d bc bs n w : Nat} {f : Nat → Int32} {s t sh hw gi tk ss ts : Int32} {mk la : Bool} {b0 : Nat} {x y : Int32} (hW : WkF h w mk b0 sh hw gi tk ss ts la) (hS : ShF h b kd f c s t) (hne : b ≠ w ∧ b + 1 ≠ w) : SM SR0 MX2_begin d bc bs [.ref w, .ref b, .int x, .int y] h n (WkP h w none true b x y 0 0 s t false n) := by
  refine sm_of pn_Overwalks_Walk rfl (Nat.le_of_ble_eq_true rfl) ?_
  refine sw_aload_n (pc' := 1) rfl dX2_begin_0 rfl ?_
  refine sw_aload_n (pc' := 2) rfl dX2_begin_1 rfl ?_
  refine sw_putf (ci := 3) (k := 1) (pc' := 5) rfl dX2_begin_2 (by decide +kernel) (by decide +kernel) w_119 rfl hW.1 hW.2 (Nat.le_of_ble_eq_true rfl) rfl rfl ?_
  refine sw_nm (fun g1 eg1 => ?_)
  have zk2 := (congrFun eg1 _).trans (up_s (h := h) (i := w))
  have zk3 := ((congrFun eg1 b).trans (up_n (h := h) (by omega))).trans hS.1
  have zk4 := ((congrFun eg1 (b + 1)).trans (up_n (h := h) (by omega))).trans hS.2.1
  refine sw_aload_n (pc' := 6) rfl dX2_begin_5 rfl ?_
  refine sw_iload_n (pc' := 7) rfl dX2_begin_6 rfl ?_
  refine sw_putf (ci := 3) (k := 2) (pc' := 10) rfl dX2_begin_7 (by decide +kernel) (by decide +kernel) w_121 rfl zk2 hW.2 (Nat.le_of_ble_eq_true rfl) rfl rfl ?_
  refine sw_nm (fun g5 eg5 => ?_)
  have zk6 := (congrFun eg5 _).trans (up_s (h := g1) (i := w))
  have zk7 := ((congrFun eg5 b).trans (up_n (h := g1) (by omega))).trans zk3
  have zk8 := ((congrFun eg5 (b + 1)).trans (up_n (h := g1) (by omega))).trans zk4
  refine sw_aload_n (pc' := 11) rfl dX2_begin_10 rfl ?_
  refine sw_iload_n (pc' := 12) rfl dX2_begin_11 rfl ?_
  refine sw_putf (ci := 3) (k := 3) (pc' := 15) rfl dX2_begin_12 (by decide +kernel) (by decide +kernel) w_123 rfl zk6 hW.2 (Nat.le_of_ble_eq_true rfl) rfl rfl ?_
  refine sw_nm (fun g9 eg9 => ?_)
  have zk10 := (congrFun eg9 _).trans (up_s (h := g5) (i := w))
  have zk11 := ((congrFun eg9 b).trans (up_n (h := g5) (by omega))).trans zk7
  have zk12 := ((congrFun eg9 (b + 1)).trans (up_n (h := g5) (by omega))).trans zk8
  refine sw_aload_n (pc' := 16) rfl dX2_begin_15 rfl ?_
  refine sw_iconst (pc' := 17) (v := 1) rfl dX2_begin_16 (by decide +kernel) ?_
  refine sw_putf (ci := 3) (k := 0) (pc' := 20) rfl dX2_begin_17 (by decide +kernel) (by decide +kernel) w_117 rfl zk10 hW.2 (Nat.le_of_ble_eq_true rfl) rfl rfl ?_
  refine sw_nm (fun g13 eg13 => ?_)
  have zk14 := (congrFun eg13 _).trans (up_s (h := g9) (i := w))
  have zk15 := ((congrFun eg13 b).trans (up_n (h := g9) (by omega))).trans zk11
  have zk16 := ((congrFun eg13 (b + 1)).trans (up_n (h := g9) (by omega))).trans zk12
  refine sw_aload_n (pc' := 21) rfl dX2_begin_20 rfl ?_
  refine sw_iconst (pc' := 22) (v := 0) rfl dX2_begin_21 (by decide +kernel) ?_
  refine sw_putf (ci := 3) (k := 4) (pc' := 25) rfl dX2_begin_22 (by decide +kernel) (by decide +kernel) w_125 rfl zk14 hW.2 (Nat.le_of_ble_eq_true rfl) rfl rfl ?_
  refine sw_nm (fun g17 eg17 => ?_)
  have zk18 := (congrFun eg17 _).trans (up_s (h := g13) (i := w))
  have zk19 := ((congrFun eg17 b).trans (up_n (h := g13) (by omega))).trans zk15
  have zk20 := ((congrFun eg17 (b + 1)).trans (up_n (h := g13) (by omega))).trans zk16
  refine sw_aload_n (pc' := 26) rfl dX2_begin_25 rfl ?_
  refine sw_iconst (pc' := 27) (v := 0) rfl dX2_begin_26 (by decide +kernel) ?_
  refine sw_putf (ci := 3) (k := 5) (pc' := 30) rfl dX2_begin_27 (by decide +kernel) (by decide +kernel) w_127 rfl zk18 hW.2 (Nat.le_of_ble_eq_true rfl) rfl rfl ?_
  refine sw_nm (fun g21 eg21 => ?_)
  have zk22 := (congrFun eg21 _).trans (up_s (h := g17) (i := w))
  have zk23 := ((congrFun eg21 b).trans (up_n (h := g17) (by omega))).trans zk19
  have zk24 := ((congrFun eg21 (b + 1)).trans (up_n (h := g17) (by omega))).trans zk20
  refine sw_aload_n (pc' := 31) rfl dX2_begin_30 rfl ?_
  refine sw_aload_n (pc' := 32) rfl dX2_begin_31 rfl ?_
  refine sw_getf (ci := 2) (k := 3) (pc' := 35) rfl dX2_begin_32 (by decide +kernel) w_86 zk23 rfl ?_
  refine sw_putf (ci := 3) (k := 6) (pc' := 38) rfl dX2_begin_35 (by decide +kernel) (by decide +kernel) w_128 rfl zk22 hW.2 (Nat.le_of_ble_eq_true rfl) rfl rfl ?_
  refine sw_nm (fun g25 eg25 => ?_)
  have zk26 := (congrFun eg25 _).trans (up_s (h := g21) (i := w))
  have zk27 := ((congrFun eg25 b).trans (up_n (h := g21) (by omega))).trans zk23
  have zk28 := ((congrFun eg25 (b + 1)).trans (up_n (h := g21) (by omega))).trans zk24
  refine sw_aload_n (pc' := 39) rfl dX2_begin_38 rfl ?_
  refine sw_aload_n (pc' := 40) rfl dX2_begin_39 rfl ?_
  refine sw_getf (ci := 2) (k := 4) (pc' := 43) rfl dX2_begin_40 (by decide +kernel) w_88 zk27 rfl ?_
  refine sw_putf (ci := 3) (k := 7) (pc' := 46) rfl dX2_begin_43 (by decide +kernel) (by decide +kernel) w_129 rfl zk26 hW.2 (Nat.le_of_ble_eq_true rfl) rfl rfl ?_
  refine sw_nm (fun g29 eg29 => ?_)
  have zk30 := (congrFun eg29 _).trans (up_s (h := g25) (i := w))
  have zk31 := ((congrFun eg29 b).trans (up_n (h := g25) (by omega))).trans zk27
  have zk32 := ((congrFun eg29 (b + 1)).trans (up_n (h := g25) (by omega))).trans zk28
  refine sw_aload_n (pc' := 47) rfl dX2_begin_46 rfl ?_
  refine sw_iconst (pc' := 48) (v := 0) rfl dX2_begin_47 (by decide +kernel) ?_
  refine sw_putf (ci := 3) (k := 8) (pc' := 51) rfl dX2_begin_48 (by decide +kernel) (by decide +kernel) w_130 rfl zk30 hW.2 (Nat.le_of_ble_eq_true rfl) rfl rfl ?_
  refine sw_nm (fun g33 eg33 => ?_)
  have zk34 := (congrFun eg33 _).trans (up_s (h := g29) (i := w))
  have zk35 := ((congrFun eg33 b).trans (up_n (h := g29) (by omega))).trans zk31
  have zk36 := ((congrFun eg33 (b + 1)).trans (up_n (h := g29) (by omega))).trans zk32
  refine sw_ret (v := none) ⟨dX2_begin_51, rfl⟩ ?_
  exact ⟨rfl, rfl, ⟨zk34, hW.2⟩, (fun i h1 => (congrFun eg33 i).trans ((up_n h1).trans ((congrFun eg29 i).trans ((up_n h1).trans ((congrFun eg25 i).trans ((up_n h1).trans ((congrFun eg21 i).trans ((up_n h1).trans ((congrFun eg17 i).trans ((up_n h1).trans ((congrFun eg13 i).trans ((up_n h1).trans ((congrFun eg9 i).trans ((up_n h1).trans ((congrFun eg5 i).trans ((up_n h1).trans ((congrFun eg1 i).trans ((up_n h1).trans (rfl)))))))))))))))))))⟩
theorem l_giveUpTo {h0 : AH} {b kd c d bc bs n w : Nat} {f : Nat → Int32} {s t sh hw tk ss : Int32} {mk : Bool} (hne : b ≠ w ∧ b + 1 ≠ w) (hd : 2 ≤ d) (m : Nat) : ∀ (a : Nat) (h : AH) (gi ts : Int32) (la : Bool), a + m < 100 → WkF h w mk b sh hw gi tk ss ts la → ShF h b kd f c s t → FrW h0 h w → SW SR0 MX2_giveUpTo d bc bs 2 [(2, .int (nI a)), (0, .ref w), (1, .int (nI (a + m)))] [] h n (WkP h0 w (some (.int (nI (a + guN c s tk ss gi m)))) mk b sh hw (gi + nI (guN c s tk ss gi m)) tk ss (if (guN c s tk ss gi m) = 0 then ts else t) (if (guN c s tk ss gi m) = 0 then la else true) n) := by
  induction m with
  | zero =>
    intro a h gi ts la ha hW hS hF
    refine sw_iload_n (pc' := 3) rfl dX2_giveUpTo_2 rfl ?_
    refine sw_iload_n (pc' := 4) rfl dX2_giveUpTo_3 rfl ?_
    refine sw_icmp_ge (pc' := 7) (tgt := 25) rfl dX2_giveUpTo_4 (by decide +kernel) (fun c4 => ?_) (fun c4 => ?_)
    · refine sw_iload_n (pc' := 26) rfl dX2_giveUpTo_25 rfl ?_
      refine sw_ret (v := some _) ⟨dX2_giveUpTo_26, _, rfl, rfl⟩ ?_
      exact ⟨rfl, rfl, ⟨by rw [show gi + nI (guN c s tk ss gi 0) = gi from Int32.add_zero gi]; exact hW.1, hW.2⟩, hF⟩
    · exact absurd (Int32.le_refl _) c4
  | succ m ih =>
    intro a h gi ts la ha hW hS hF
    refine sw_iload_n (pc' := 3) rfl dX2_giveUpTo_2 rfl ?_
    refine sw_iload_n (pc' := 4) rfl dX2_giveUpTo_3 rfl ?_
    refine sw_icmp_ge (pc' := 7) (tgt := 25) rfl dX2_giveUpTo_4 (by decide +kernel) (fun c4 => ?_) (fun c4 => ?_)
    · exact absurd c4 (nI_ge (by omega) (by omega))
    · refine sw_aload_n (pc' := 8) rfl dX2_giveUpTo_7 rfl ?_
      refine sw_V (M' := MX2_hasMore) (d' := d - 1) (bc' := 0) (bs' := 0) (ci := 3) (as := []) dX2_giveUpTo_8 w_225 ok_X2_hasMore (m_hasMore hW hS (by omega)) hW.1 rfl (by omega) (Nat.le_of_ble_eq_true rfl) (Nat.zero_le _) (Nat.zero_le _) (fun E h' n' _ z => det_x z) (det_k ?_)
      refine sw_if_eq (pc' := 14) (tgt := 25) rfl dX2_giveUpTo_11 (by decide +kernel) (fun c11 => ?_) (fun c11 => ?_)
      · refine sw_iload_n (pc' := 26) rfl dX2_giveUpTo_25 rfl ?_
        refine sw_ret (v := some _) ⟨dX2_giveUpTo_26, _, rfl, rfl⟩ ?_
        have e0 : guN c s tk ss gi (m + 1) = 0 := by rw [guN, bI_0 c11]; rfl
        rw [e0, show gi + nI 0 = gi from Int32.add_zero gi]
        exact ⟨rfl, rfl, hW, hF⟩
      · refine sw_aload_n (pc' := 15) rfl dX2_giveUpTo_14 rfl ?_
        refine sw_V (M' := MX2_give) (d' := d - 1) (bc' := 0) (bs' := 0) (ci := 3) (as := []) dX2_giveUpTo_15 w_226 ok_X2_give (m_give hW hS hne (by omega)) hW.1 rfl (by omega) (Nat.le_of_ble_eq_true rfl) (Nat.zero_le _) (Nat.zero_le _) (fun E h' n' _ z => wkp_x z) (wkp_k (fun p1 p1W p1F => ?_))
        refine sw_pop (pc' := 19) rfl dX2_giveUpTo_18 rfl ?_
        refine sw_iinc (pc' := 22) (lv' := [(2, _), (0, _), (1, _)]) (v := nI (a + 1)) rfl dX2_giveUpTo_19 rfl (nI_succ a).symm (by decide +kernel) rfl ?_
        refine sw_goto (tgt := 2) dX2_giveUpTo_22 (by decide +kernel) ?_
        have e1 : guN c s tk ss gi (m + 1) = guN c s tk ss (gi + 1) m + 1 := by rw [guN, bI_1 c11]; rfl
        have k := ih (a + 1) p1 (gi + 1) t true (by omega) p1W (hS.frW p1F hne) (hF.tr p1F)
        rw [nI_add1, show a + 1 + m = a + (m + 1) by omega, show a + 1 + guN c s tk ss (gi + 1) m = a + (guN c s tk ss (gi + 1) m + 1) by omega, ite_self, ite_self] at k
        rw [e1, if_neg (Nat.succ_ne_zero _), if_neg (Nat.succ_ne_zero _)]
        exact k
theorem m_giveUpTo {h : AH} {b kd c d bc bs n w : Nat} {f : Nat → Int32} {s t sh hw gi tk ss ts : Int32} {mk la : Bool} {m : Nat} (hW : WkF h w mk b sh hw gi tk ss ts la) (hS : ShF h b kd f c s t) (hne : b ≠ w ∧ b + 1 ≠ w) (hd : 2 ≤ d) (hm : m < 100) : SM SR0 MX2_giveUpTo d bc bs [.ref w, .int (nI m)] h n (WkP h w (some (.int (nI (guN c s tk ss gi m)))) mk b sh hw (gi + nI (guN c s tk ss gi m)) tk ss (if (guN c s tk ss gi m) = 0 then ts else t) (if (guN c s tk ss gi m) = 0 then la else true) n) := by
  refine sm_of pn_Overwalks_Walk rfl (Nat.le_of_ble_eq_true rfl) ?_
  refine sw_iconst (pc' := 1) (v := 0) rfl dX2_giveUpTo_0 (by decide +kernel) ?_
  refine sw_istore_n (pc' := 2) (lv' := [(2, _), (0, _), (1, _)]) rfl dX2_giveUpTo_1 (by decide +kernel) rfl ?_
  have k := l_giveUpTo (h0 := h) (sh := sh) (hw := hw) (tk := tk) (ss := ss) (mk := mk) (f := f) (kd := kd) (c := c) (s := s) (t := t) (d := d) (bc := bc) (bs := bs) (n := n) hne hd m 0 h gi ts la (by omega) hW hS FrW.rf
  rw [Nat.zero_add, Nat.zero_add] at k
  exact k
theorem m_initWalk {h : AH} {d bc bs n w b : Nat} (hW : h w = .inr (3, dfs 3)) (hw : nC ≤ w) : SM SR0 MX2_init d bc bs [.ref w, .ref b] h n (WkP h w none false b 0 0 0 0 0 0 false n) := by
  refine sm_of pn_Overwalks_Walk rfl (Nat.le_of_ble_eq_true rfl) ?_
  refine sw_aload_n (pc' := 1) rfl dX2_init_0 rfl ?_
  refine sw_objInit (pc' := 4) rfl dX2_init_1 w_116 w_69 w_70 (Nat.le_of_ble_eq_true rfl) ?_
  refine sw_aload_n (pc' := 5) rfl dX2_init_4 rfl ?_
  refine sw_aload_n (pc' := 6) rfl dX2_init_5 rfl ?_
  refine sw_putf (ci := 3) (k := 1) (pc' := 9) rfl dX2_init_6 (by decide +kernel) (by decide +kernel) w_119 rfl hW hw (Nat.le_of_ble_eq_true rfl) rfl rfl ?_
  refine sw_nm (fun g1 eg1 => ?_)
  have zk2 := (congrFun eg1 _).trans (up_s (h := h) (i := w))
  refine sw_ret (v := none) ⟨dX2_init_9, rfl⟩ ?_
  exact ⟨rfl, rfl, ⟨zk2, hw⟩, (fun i h1 => (congrFun eg1 i).trans ((up_n h1).trans (rfl)))⟩
theorem m_initShelf {h : AH} {d bc bs b kd : Nat} (hb : h b = .inr (2, dfs 2)) (hn : nC ≤ b) (h1 : 1 ≤ bc) (h2 : 12 ≤ bs) : SM SR0 MX1_init d bc bs [.ref b, .ref kd] h (b + 1) (ShP h b kd none (fun _ => 0) 0 0 0 (b + 1 + 1)) := by
  refine sm_of pn_Overwalks_Shelf rfl (Nat.le_of_ble_eq_true rfl) ?_
  refine sw_aload_n (pc' := 1) rfl dX1_init_0 rfl ?_
  refine sw_objInit (pc' := 4) rfl dX1_init_1 w_79 w_69 w_70 (Nat.le_of_ble_eq_true rfl) ?_
  refine sw_aload_n (pc' := 5) rfl dX1_init_4 rfl ?_
  refine sw_bipush (pc' := 7) (v := 12) rfl dX1_init_5 (by decide +kernel) ?_
  refine sw_newa (pc' := 9) (t := 0) (len := 12) rfl dX1_init_7 (Or.inl ⟨rfl, rfl⟩) w_101 rfl (by decide +kernel) h1 h2 ?_
  refine sw_nm (fun g0 eg0 => ?_)
  have ka := (congrFun eg0 _).trans (up_s (h := h) (i := b + 1))
  have kb := ((congrFun eg0 b).trans (up_n (h := h) (by omega))).trans hb
  refine sw_putfF (ci := 2) (k := 1) (pc' := 12) rfl dX1_init_9 (by decide +kernel) (by decide +kernel) w_82 rfl rfl rfl kb hn (Nat.le_of_ble_eq_true rfl) rfl rfl ?_
  refine sw_nm (fun g1 eg1 => ?_)
  have zk2 := (congrFun eg1 _).trans (up_s (h := g0) (i := b))
  have zk3 := ((congrFun eg1 (b + 1)).trans (up_n (h := g0) (by omega))).trans ka
  refine sw_aload_n (pc' := 13) rfl dX1_init_12 rfl ?_
  refine sw_aload_n (pc' := 14) rfl dX1_init_13 rfl ?_
  refine sw_putfF (ci := 2) (k := 0) (pc' := 17) rfl dX1_init_14 (by decide +kernel) (by decide +kernel) w_80 rfl rfl rfl zk2 hn (Nat.le_of_ble_eq_true rfl) rfl rfl ?_
  refine sw_nm (fun g4 eg4 => ?_)
  have zk5 := (congrFun eg4 _).trans (up_s (h := g1) (i := b))
  have zk6 := ((congrFun eg4 (b + 1)).trans (up_n (h := g1) (by omega))).trans zk3
  refine sw_ret (v := none) ⟨dX1_init_17, rfl⟩ ?_
  exact ⟨rfl, rfl, ⟨zk5, zk6, Nat.zero_le _, hn⟩, (fun i h1 h2 => (congrFun eg4 i).trans ((up_n h1).trans ((congrFun eg1 i).trans ((up_n h1).trans ((congrFun eg0 i).trans ((up_n h2).trans (rfl)))))))⟩
end
section
/-! 16.klass -/
/-! the class's picture -/
/-- a WALK: made, number of its SHELF, how, given, takenOut, shiftsSeen, turnsSeen, hasLast -/
abbrev WT : Type := Bool × Nat × Int32 × Int32 × Int32 × Int32 × Int32 × Bool
/-- things, counts, shifts, turns, walks, refusals, knocks -/
abbrev CS : Type := (Nat → Nat → Int32) × (Nat → Nat) × (Nat → Int32) × (Nat → Int32) × (Nat → WT) × Int32 × Int32
def kdO (k : Nat) : Nat := if k < 3 then 1 else if k = 3 then 2 else if k = 4 then 3 else if k = 5 then 4 else if k < 8 then 5 else 1
theorem kdO_r {k : Nat} : 1 ≤ kdO k ∧ kdO k ≤ 5 := by unfold kdO; split <;> (try split) <;> (try split) <;> (try split) <;> (try split) <;> omega
def WkW (h : AH) (w : Nat) (q : WT) : Prop := q.2.1 < 11 ∧ WkF h w q.1 (102 + 2 * q.2.1) (nI q.2.1) q.2.2.1 q.2.2.2.1 q.2.2.2.2.1 q.2.2.2.2.2.1 q.2.2.2.2.2.2.1 q.2.2.2.2.2.2.2
/-- a probe -/
def PrW (h : AH) (w : Nat) : Prop := ∃ mk b sh hw gi tk ss ts la, WkF h w mk b sh hw gi tk ss ts la
def RC (h : AH) (σ : CS) : Prop :=
  h 100 = .inr (4, [.ref 101, .ref 124, .ref 131, .ref 132, .ref 133, .int σ.2.2.2.2.2.1, .int σ.2.2.2.2.2.2]) ∧
  (∃ g, h 101 = .inl (3, 11, .inr (.inr (.inr (.inr g)))) ∧ ∀ k, k < 11 → g k = some (102 + 2 * k)) ∧
  (∃ g, h 124 = .inl (4, 6, .inr (.inr (.inr (.inr g)))) ∧ ∀ k, k < 6 → g k = some (125 + k)) ∧
  (∀ k, k < 11 → ShF h (102 + 2 * k) (kdO k) (σ.1 k) (σ.2.1 k) (σ.2.2.1 k) (σ.2.2.2.1 k)) ∧
  (∀ k, k < 6 → WkW h (125 + k) (σ.2.2.2.2.1 k)) ∧ PrW h 131 ∧ PrW h 132 ∧ (∃ f c s t, ShF h 133 1 f c s t) ∧ ∀ k, 1 ≤ k → k ≤ 5 → KdF h k
/-- nothing outside the class is otherwise -/
def FrC (h h' : AH) (n : Nat) : Prop := ∀ i, i < 100 ∨ 135 ≤ i → i < n → h' i = h i
theorem FrC.rf {h : AH} {n : Nat} : FrC h h n := fun _ _ _ => rfl
theorem FrC.tr {h h1 h2 : AH} {n m : Nat} (a : FrC h h1 n) (c : FrC h1 h2 m) (hm : n ≤ m) : FrC h h2 n := fun i p q => (c i p (Nat.lt_of_lt_of_le q hm)).trans (a i p q)
theorem FrS.c {h h' : AH} {k n : Nat} (hF : FrS h h' (102 + 2 * k)) (hk : k < 11) : FrC h h' n := fun i p _ => hF i (by omega) (by omega)
theorem FrW.c {h h' : AH} {w n : Nat} (hF : FrW h h' w) (h1 : 100 ≤ w) (h2 : w < 135) : FrC h h' n := fun i p _ => hF i (by omega)
def sU (σ : CS) (k : Nat) (f : Nat → Int32) (c : Nat) (s t : Int32) : CS := (up σ.1 k f, up σ.2.1 k c, up σ.2.2.1 k s, up σ.2.2.2.1 k t, σ.2.2.2.2)
def wU (σ : CS) (k : Nat) (q : WT) : CS := (σ.1, σ.2.1, σ.2.2.1, σ.2.2.2.1, up σ.2.2.2.2.1 k q, σ.2.2.2.2.2)
def rfU (σ : CS) : CS := (σ.1, σ.2.1, σ.2.2.1, σ.2.2.2.1, σ.2.2.2.2.1, σ.2.2.2.2.2.1 + 1, σ.2.2.2.2.2.2)
def knU (σ : CS) : CS := (σ.1, σ.2.1, σ.2.2.1, σ.2.2.2.1, σ.2.2.2.2.1, σ.2.2.2.2.2.1, σ.2.2.2.2.2.2 + 1)
theorem RC.sh {h : AH} {σ : CS} (hR : RC h σ) {k : Nat} (hk : k < 11) : ShF h (102 + 2 * k) (kdO k) (σ.1 k) (σ.2.1 k) (σ.2.2.1 k) (σ.2.2.2.1 k) := hR.2.2.2.1 k hk
theorem RC.wk {h : AH} {σ : CS} (hR : RC h σ) {k : Nat} (hk : k < 6) : WkW h (125 + k) (σ.2.2.2.2.1 k) := hR.2.2.2.2.1 k hk
theorem RC.kd {h : AH} {σ : CS} (hR : RC h σ) {k : Nat} (h1 : 1 ≤ k ∧ k ≤ 5) : KdF h k := hR.2.2.2.2.2.2.2.2 k h1.1 h1.2
theorem PrW.frS {h h' : AH} {w b : Nat} (hP : PrW h w) (hF : FrS h h' b) (h1 : w ≠ b ∧ w ≠ b + 1) : PrW h' w := by
  obtain ⟨mk, b1, sh, hw, gi, tk, ss, ts, la, h9⟩ := hP
  exact ⟨mk, b1, sh, hw, gi, tk, ss, ts, la, h9.frS hF h1⟩
theorem PrW.frW {h h' : AH} {w b : Nat} (hP : PrW h w) (hF : FrW h h' b) (h1 : w ≠ b) : PrW h' w := by
  obtain ⟨mk, b1, sh, hw, gi, tk, ss, ts, la, h9⟩ := hP
  exact ⟨mk, b1, sh, hw, gi, tk, ss, ts, la, h9.frW hF h1⟩
/-- a SHELF is otherwise -/
theorem RC.sU {h h' : AH} {σ : CS} (hR : RC h σ) {k c : Nat} {f : Nat → Int32} {s t : Int32} (hk : k < 11) (hS : ShF h' (102 + 2 * k) (kdO k) f c s t) (hF : FrS h h' (102 + 2 * k)) : RC h' (sU σ k f c s t) := by
  obtain ⟨g1, ⟨a, g2, g2'⟩, ⟨a1, g3, g3'⟩, g4, g5, g6, g7, ⟨f8, c8, s8, t8, g8⟩, g9⟩ := id hR
  refine ⟨(hF 100 (by omega) (by omega)).trans g1, ⟨a, (hF 101 (by omega) (by omega)).trans g2, g2'⟩, ⟨a1, (hF 124 (by omega) (by omega)).trans g3, g3'⟩, fun j hj => ?_, fun j hj => ⟨(g5 j hj).1, (g5 j hj).2.frS hF (by omega)⟩, g6.frS hF (by omega), g7.frS hF (by omega), ⟨f8, c8, s8, t8, g8.fr hF (by omega)⟩, fun j h1 h2 => (g9 j h1 h2).fr hF hS.2.2.2⟩
  by_cases e : j = k
  · subst e
    show ShF h' _ _ (up σ.1 j f j) (up σ.2.1 j c j) (up σ.2.2.1 j s j) (up σ.2.2.2.1 j t j)
    rw [up_s, up_s, up_s, up_s]
    exact hS
  · show ShF h' _ _ (up σ.1 k f j) (up σ.2.1 k c j) (up σ.2.2.1 k s j) (up σ.2.2.2.1 k t j)
    rw [up_n e, up_n e, up_n e, up_n e]
    exact (g4 j hj).fr hF (by omega)
/-- a WALK is otherwise -/
theorem RC.wU {h h' : AH} {σ : CS} (hR : RC h σ) {k : Nat} {q : WT} (hk : k < 6) (hW : WkW h' (125 + k) q) (hF : FrW h h' (125 + k)) : RC h' (wU σ k q) := by
  obtain ⟨g1, ⟨a, g2, g2'⟩, ⟨a1, g3, g3'⟩, g4, g5, g6, g7, ⟨f8, c8, s8, t8, g8⟩, g9⟩ := id hR
  refine ⟨(hF 100 (by omega)).trans g1, ⟨a, (hF 101 (by omega)).trans g2, g2'⟩, ⟨a1, (hF 124 (by omega)).trans g3, g3'⟩, fun j hj => (g4 j hj).frW hF (by omega), fun j hj => ?_, g6.frW hF (by omega), g7.frW hF (by omega), ⟨f8, c8, s8, t8, g8.frW hF (by omega)⟩, fun j h1 h2 => (g9 j h1 h2).frW hF hW.2.2⟩
  by_cases e : j = k
  · subst e
    show WkW h' _ (up σ.2.2.2.2.1 j q j)
    rw [up_s]
    exact hW
  · show WkW h' _ (up σ.2.2.2.2.1 k q j)
    rw [up_n e]
    exact ⟨(g5 j hj).1, (g5 j hj).2.frW hF (by omega)⟩
/-- a number of the class is otherwise -/
theorem RC.oU {h h' : AH} {σ : CS} {x y : Int32} (hR : RC h σ) (h1 : h' 100 = .inr (4, [.ref 101, .ref 124, .ref 131, .ref 132, .ref 133, .int x, .int y])) (hF : FrW h h' 100) : RC h' (σ.1, σ.2.1, σ.2.2.1, σ.2.2.2.1, σ.2.2.2.2.1, x, y) := by
  obtain ⟨g1, ⟨a, g2, g2'⟩, ⟨a1, g3, g3'⟩, g4, g5, g6, g7, ⟨f8, c8, s8, t8, g8⟩, g9⟩ := id hR
  exact ⟨h1, ⟨a, (hF 101 (by omega)).trans g2, g2'⟩, ⟨a1, (hF 124 (by omega)).trans g3, g3'⟩, fun j hj => (g4 j hj).frW hF (by omega), fun j hj => ⟨(g5 j hj).1, (g5 j hj).2.frW hF (by omega)⟩, g6.frW hF (by omega), g7.frW hF (by omega), ⟨f8, c8, s8, t8, g8.frW hF (by omega)⟩, fun j h1 h2 => (g9 j h1 h2).frW hF (Nat.le_refl _)⟩
/-- an end of a call: what it answers, what is then -/
def CP (h : AH) (n : Nat) (q : ARes × CS) : ARes → AH → Nat → Prop := fun r' h' n' => r' = q.1 ∧ n' = n ∧ RC h' q.2 ∧ FrC h h' n
theorem cp_k {A : Nat → AH → Option Value → Prop} {h : AH} {σ : CS} {n n0 : Nat} {r : Option Value} (k : ∀ h', RC h' σ → FrC h h' n → A n h' r) : ∀ (v : Option Value) (h' : AH) (n' : Nat), n0 ≤ n' → CP h n (.inl r, σ) (.inl v) h' n' → A n' h' v := by
  rintro v h' n' - ⟨e, rfl, g1, g2⟩
  cases e
  exact k h' g1 g2
theorem cp_x {A : Prop} {h : AH} {σ : CS} {n : Nat} {r : Option Value} {E : String} {h' : AH} {n' : Nat} (z : CP h n (.inl r, σ) (.inr E) h' n') : A := by cases z.1
theorem dx_x {A : String → AH → Nat → Prop} {E0 : String} {h0 : AH} {n0 n : Nat} (k : A E0 h0 n0) : ∀ (E : String) (h' : AH) (n' : Nat), n ≤ n' → Det (.inr E0) h0 n0 (.inr E) h' n' → A E h' n' := by
  rintro E h' n' - ⟨e, rfl, rfl⟩
  cases e
  exact k
theorem dx_k {A : Prop} {E0 : String} {h0 : AH} {n0 : Nat} {v : Option Value} {h' : AH} {n' : Nat} (z : Det (.inr E0) h0 n0 (.inl v) h' n') : A := by cases z.1
def xI : ARes := .inr "java/lang/IndexOutOfBoundsException"
def xA : ARes := .inr "java/lang/IllegalArgumentException"
def xS : ARes := .inr "java/lang/IllegalStateException"
def rI (x : Int32) : ARes := .inl (some (.int x))
def ivN : ARes := .inl none
theorem m_requireThing {h : AH} {d bc bs n : Nat} {x : Int32} (h1 : 1 ≤ bc) (h2 : 6 ≤ bs) : SM SR0 MX3_requireThing d bc bs [.int x] h n (Det (if x < 0 ∨ 100 ≤ x then xA else ivN) h n) := by
  refine sm_of pn_Overwalks rfl (Nat.le_of_ble_eq_true rfl) ?_
  refine sw_iload_n (pc' := 1) rfl dX3_requireThing_0 rfl ?_
  refine sw_if_lt (pc' := 4) (tgt := 10) rfl dX3_requireThing_1 (by decide +kernel) (fun c1 => ?_) (fun c1 => ?_)
  · refine sw_throwW (names := ["java/lang/RuntimeException", "java/lang/Exception"]) rfl dX3_requireThing_10 dX3_requireThing_13 dX3_requireThing_14 dX3_requireThing_17 dX3_requireThing_20 (by decide +kernel) (by decide +kernel) (by decide +kernel) w_285 w_50 (SRm 7 rfl) th_Overwalks_154 (by omega) (by omega) ?_
    exact ⟨by rw [if_pos (Or.inl c1)]; rfl, rfl, rfl⟩
  · refine sw_iload_n (pc' := 5) rfl dX3_requireThing_4 rfl ?_
    refine sw_bipush (pc' := 7) (v := 100) rfl dX3_requireThing_5 (by decide +kernel) ?_
    refine sw_icmp_lt (pc' := 10) (tgt := 21) rfl dX3_requireThing_7 (by decide +kernel) (fun c7 => ?_) (fun c7 => ?_)
    · refine sw_ret (v := none) ⟨dX3_requireThing_21, rfl⟩ ?_
      exact ⟨by rw [if_neg (fun q => q.elim c1 (Int32.not_le.mpr c7))]; rfl, rfl, rfl⟩
    · refine sw_throwW (names := ["java/lang/RuntimeException", "java/lang/Exception"]) rfl dX3_requireThing_10 dX3_requireThing_13 dX3_requireThing_14 dX3_requireThing_17 dX3_requireThing_20 (by decide +kernel) (by decide +kernel) (by decide +kernel) w_285 w_50 (SRm 7 rfl) th_Overwalks_154 (by omega) (by omega) ?_
      exact ⟨by rw [if_pos (Or.inr (Int32.not_lt.mp c7))]; rfl, rfl, rfl⟩
theorem m_requireThingOrNothing {h : AH} {d bc bs n : Nat} {x : Int32} (h1 : 1 ≤ bc) (h2 : 6 ≤ bs) : SM SR0 MX3_requireThingOrNothing d bc bs [.int x] h n (Det (if x < 0 ∨ 100 < x then xA else ivN) h n) := by
  refine sm_of pn_Overwalks rfl (Nat.le_of_ble_eq_true rfl) ?_
  refine sw_iload_n (pc' := 1) rfl dX3_requireThingOrNothing_0 rfl ?_
  refine sw_if_lt (pc' := 4) (tgt := 10) rfl dX3_requireThingOrNothing_1 (by decide +kernel) (fun c1 => ?_) (fun c1 => ?_)
  · refine sw_throwW (names := ["java/lang/RuntimeException", "java/lang/Exception"]) rfl dX3_requireThingOrNothing_10 dX3_requireThingOrNothing_13 dX3_requireThingOrNothing_14 dX3_requireThingOrNothing_17 dX3_requireThingOrNothing_20 (by decide +kernel) (by decide +kernel) (by decide +kernel) w_285 w_50 (SRm 4 rfl) th_Overwalks_154 (by omega) (by omega) ?_
    exact ⟨by rw [if_pos (Or.inl c1)]; rfl, rfl, rfl⟩
  · refine sw_iload_n (pc' := 5) rfl dX3_requireThingOrNothing_4 rfl ?_
    refine sw_bipush (pc' := 7) (v := 100) rfl dX3_requireThingOrNothing_5 (by decide +kernel) ?_
    refine sw_icmp_le (pc' := 10) (tgt := 21) rfl dX3_requireThingOrNothing_7 (by decide +kernel) (fun c7 => ?_) (fun c7 => ?_)
    · refine sw_ret (v := none) ⟨dX3_requireThingOrNothing_21, rfl⟩ ?_
      exact ⟨by rw [if_neg (fun q => q.elim c1 (Int32.not_lt.mpr c7))]; rfl, rfl, rfl⟩
    · refine sw_throwW (names := ["java/lang/RuntimeException", "java/lang/Exception"]) rfl dX3_requireThingOrNothing_10 dX3_requireThingOrNothing_13 dX3_requireThingOrNothing_14 dX3_requireThingOrNothing_17 dX3_requireThingOrNothing_20 (by decide +kernel) (by decide +kernel) (by decide +kernel) w_285 w_50 (SRm 4 rfl) th_Overwalks_154 (by omega) (by omega) ?_
      exact ⟨by rw [if_pos (Or.inr (Int32.not_le.mp c7))]; rfl, rfl, rfl⟩
theorem m_requireUpToRoom {h : AH} {d bc bs n : Nat} {x : Int32} (h1 : 1 ≤ bc) (h2 : 6 ≤ bs) : SM SR0 MX3_requireUpToRoom d bc bs [.int x] h n (Det (if x < 0 ∨ 12 < x then xA else ivN) h n) := by
  refine sm_of pn_Overwalks rfl (Nat.le_of_ble_eq_true rfl) ?_
  refine sw_iload_n (pc' := 1) rfl dX3_requireUpToRoom_0 rfl ?_
  refine sw_if_lt (pc' := 4) (tgt := 10) rfl dX3_requireUpToRoom_1 (by decide +kernel) (fun c1 => ?_) (fun c1 => ?_)
  · refine sw_throwW (names := ["java/lang/RuntimeException", "java/lang/Exception"]) rfl dX3_requireUpToRoom_10 dX3_requireUpToRoom_13 dX3_requireUpToRoom_14 dX3_requireUpToRoom_17 dX3_requireUpToRoom_20 (by decide +kernel) (by decide +kernel) (by decide +kernel) w_285 w_50 (SRm 11 rfl) th_Overwalks_154 (by omega) (by omega) ?_
    exact ⟨by rw [if_pos (Or.inl c1)]; rfl, rfl, rfl⟩
  · refine sw_iload_n (pc' := 5) rfl dX3_requireUpToRoom_4 rfl ?_
    refine sw_bipush (pc' := 7) (v := 12) rfl dX3_requireUpToRoom_5 (by decide +kernel) ?_
    refine sw_icmp_le (pc' := 10) (tgt := 21) rfl dX3_requireUpToRoom_7 (by decide +kernel) (fun c7 => ?_) (fun c7 => ?_)
    · refine sw_ret (v := none) ⟨dX3_requireUpToRoom_21, rfl⟩ ?_
      exact ⟨by rw [if_neg (fun q => q.elim c1 (Int32.not_lt.mpr c7))]; rfl, rfl, rfl⟩
    · refine sw_throwW (names := ["java/lang/RuntimeException", "java/lang/Exception"]) rfl dX3_requireUpToRoom_10 dX3_requireUpToRoom_13 dX3_requireUpToRoom_14 dX3_requireUpToRoom_17 dX3_requireUpToRoom_20 (by decide +kernel) (by decide +kernel) (by decide +kernel) w_285 w_50 (SRm 11 rfl) th_Overwalks_154 (by omega) (by omega) ?_
      exact ⟨by rw [if_pos (Or.inr (Int32.not_le.mp c7))]; rfl, rfl, rfl⟩
theorem m_requireThingNothingOrNone {h : AH} {d bc bs n : Nat} {x : Int32} (h1 : 1 ≤ bc) (h2 : 6 ≤ bs) : SM SR0 MX3_requireThingNothingOrNone d bc bs [.int x] h n (Det (if x < -1 ∨ 100 < x then xA else ivN) h n) := by
  refine sm_of pn_Overwalks rfl (Nat.le_of_ble_eq_true rfl) ?_
  refine sw_iload_n (pc' := 1) rfl dX3_requireThingNothingOrNone_0 rfl ?_
  refine sw_iconst (pc' := 2) (v := (-1)) rfl dX3_requireThingNothingOrNone_1 (by decide +kernel) ?_
  refine sw_icmp_lt (pc' := 5) (tgt := 11) rfl dX3_requireThingNothingOrNone_2 (by decide +kernel) (fun c2 => ?_) (fun c2 => ?_)
  · refine sw_throwW (names := ["java/lang/RuntimeException", "java/lang/Exception"]) rfl dX3_requireThingNothingOrNone_11 dX3_requireThingNothingOrNone_14 dX3_requireThingNothingOrNone_15 dX3_requireThingNothingOrNone_18 dX3_requireThingNothingOrNone_21 (by decide +kernel) (by decide +kernel) (by decide +kernel) w_285 w_50 (SRm 6 rfl) th_Overwalks_154 (by omega) (by omega) ?_
    exact ⟨by rw [if_pos (Or.inl c2)]; rfl, rfl, rfl⟩
  · refine sw_iload_n (pc' := 6) rfl dX3_requireThingNothingOrNone_5 rfl ?_
    refine sw_bipush (pc' := 8) (v := 100) rfl dX3_requireThingNothingOrNone_6 (by decide +kernel) ?_
    refine sw_icmp_le (pc' := 11) (tgt := 22) rfl dX3_requireThingNothingOrNone_8 (by decide +kernel) (fun c8 => ?_) (fun c8 => ?_)
    · refine sw_ret (v := none) ⟨dX3_requireThingNothingOrNone_22, rfl⟩ ?_
      exact ⟨by rw [if_neg (fun q => q.elim c2 (Int32.not_lt.mpr c8))]; rfl, rfl, rfl⟩
    · refine sw_throwW (names := ["java/lang/RuntimeException", "java/lang/Exception"]) rfl dX3_requireThingNothingOrNone_11 dX3_requireThingNothingOrNone_14 dX3_requireThingNothingOrNone_15 dX3_requireThingNothingOrNone_18 dX3_requireThingNothingOrNone_21 (by decide +kernel) (by decide +kernel) (by decide +kernel) w_285 w_50 (SRm 6 rfl) th_Overwalks_154 (by omega) (by omega) ?_
      exact ⟨by rw [if_pos (Or.inr (Int32.not_le.mp c8))]; rfl, rfl, rfl⟩
theorem m_requirePlace {h : AH} {d bc bs n : Nat} {x y : Int32} (h1 : 1 ≤ bc) (h2 : 6 ≤ bs) : SM SR0 MX3_requirePlace d bc bs [.int x, .int y] h n (Det (if x < 0 ∨ y ≤ x then xI else ivN) h n) := by
  refine sm_of pn_Overwalks rfl (Nat.le_of_ble_eq_true rfl) ?_
  refine sw_iload_n (pc' := 1) rfl dX3_requirePlace_0 rfl ?_
  refine sw_if_lt (pc' := 4) (tgt := 9) rfl dX3_requirePlace_1 (by decide +kernel) (fun c1 => ?_) (fun c1 => ?_)
  · refine sw_throwW (names := ["java/lang/RuntimeException", "java/lang/Exception"]) rfl dX3_requirePlace_9 dX3_requirePlace_12 dX3_requirePlace_13 dX3_requirePlace_16 dX3_requirePlace_19 (by decide +kernel) (by decide +kernel) (by decide +kernel) w_361 w_49 (SRm 9 rfl) th_Overwalks_339 (by omega) (by omega) ?_
    exact ⟨by rw [if_pos (Or.inl c1)]; rfl, rfl, rfl⟩
  · refine sw_iload_n (pc' := 5) rfl dX3_requirePlace_4 rfl ?_
    refine sw_iload_n (pc' := 6) rfl dX3_requirePlace_5 rfl ?_
    refine sw_icmp_lt (pc' := 9) (tgt := 20) rfl dX3_requirePlace_6 (by decide +kernel) (fun c6 => ?_) (fun c6 => ?_)
    · refine sw_ret (v := none) ⟨dX3_requirePlace_20, rfl⟩ ?_
      exact ⟨by rw [if_neg (fun q => q.elim c1 (Int32.not_le.mpr c6))]; rfl, rfl, rfl⟩
    · refine sw_throwW (names := ["java/lang/RuntimeException", "java/lang/Exception"]) rfl dX3_requirePlace_9 dX3_requirePlace_12 dX3_requirePlace_13 dX3_requirePlace_16 dX3_requirePlace_19 (by decide +kernel) (by decide +kernel) (by decide +kernel) w_361 w_49 (SRm 9 rfl) th_Overwalks_339 (by omega) (by omega) ?_
      exact ⟨by rw [if_pos (Or.inr (Int32.not_lt.mp c6))]; rfl, rfl, rfl⟩
theorem m_requireRoom {h : AH} {b kd c d bc bs n : Nat} {f : Nat → Int32} {s t x : Int32} (hS : ShF h b kd f c s t) (h1 : 1 ≤ bc) (h2 : 6 ≤ bs) : SM SR0 MX3_requireRoom d bc bs [.ref b, .int x] h n (Det (if 12 < nI c + x then xS else ivN) h n) := by
  refine sm_of pn_Overwalks rfl (Nat.le_of_ble_eq_true rfl) ?_
  refine sw_aload_n (pc' := 1) rfl dX3_requireRoom_0 rfl ?_
  refine sw_getf (ci := 2) (k := 2) (pc' := 4) rfl dX3_requireRoom_1 (by decide +kernel) w_84 hS.1 rfl ?_
  refine sw_iload_n (pc' := 5) rfl dX3_requireRoom_4 rfl ?_
  refine sw_iadd (pc' := 6) rfl dX3_requireRoom_5 ?_
  refine sw_bipush (pc' := 8) (v := 12) rfl dX3_requireRoom_6 (by decide +kernel) ?_
  refine sw_icmp_le (pc' := 11) (tgt := 22) rfl dX3_requireRoom_8 (by decide +kernel) (fun c8 => ?_) (fun c8 => ?_)
  · refine sw_ret (v := none) ⟨dX3_requireRoom_22, rfl⟩ ?_
    exact ⟨by rw [if_neg (Int32.not_lt.mpr c8)]; rfl, rfl, rfl⟩
  · refine sw_throwW (names := ["java/lang/RuntimeException", "java/lang/Exception"]) rfl dX3_requireRoom_11 dX3_requireRoom_14 dX3_requireRoom_15 dX3_requireRoom_18 dX3_requireRoom_21 (by decide +kernel) (by decide +kernel) (by decide +kernel) w_414 w_51 (SRm 5 rfl) th_Overwalks_356 (by omega) (by omega) ?_
    exact ⟨by rw [if_pos (Int32.not_le.mp c8)]; rfl, rfl, rfl⟩
theorem m_requireMade {h : AH} {w b d bc bs n : Nat} {mk la : Bool} {sh hw gi tk ss ts : Int32} (hW : WkF h w mk b sh hw gi tk ss ts la) (h1 : 1 ≤ bc) (h2 : 6 ≤ bs) : SM SR0 MX3_requireMade d bc bs [.ref w] h n (Det (if mk = false then xS else ivN) h n) := by
  refine sm_of pn_Overwalks rfl (Nat.le_of_ble_eq_true rfl) ?_
  refine sw_aload_n (pc' := 1) rfl dX3_requireMade_0 rfl ?_
  refine sw_getf (ci := 3) (k := 0) (pc' := 4) rfl dX3_requireMade_1 (by decide +kernel) w_118 hW.1 rfl ?_
  refine sw_if_ne (pc' := 7) (tgt := 18) rfl dX3_requireMade_4 (by decide +kernel) (fun c4 => ?_) (fun c4 => ?_)
  · refine sw_ret (v := none) ⟨dX3_requireMade_18, rfl⟩ ?_
    exact ⟨by rw [if_neg (by rw [bI_1 c4]; decide)]; rfl, rfl, rfl⟩
  · refine sw_throwW (names := ["java/lang/RuntimeException", "java/lang/Exception"]) rfl dX3_requireMade_7 dX3_requireMade_10 dX3_requireMade_11 dX3_requireMade_14 dX3_requireMade_17 (by decide +kernel) (by decide +kernel) (by decide +kernel) w_414 w_51 (SRm 14 rfl) th_Overwalks_356 (by omega) (by omega) ?_
    exact ⟨by rw [if_pos (bI_0 c4)]; rfl, rfl, rfl⟩
theorem m_oneIf {h : AH} {d bc bs n : Nat} {q : Bool} : SM SR0 MX3_oneIf d bc bs [.int (bI q)] h n (Det (rI (bI q)) h n) := by
  refine sm_of pn_Overwalks rfl (Nat.le_of_ble_eq_true rfl) ?_
  refine sw_iload_n (pc' := 1) rfl dX3_oneIf_0 rfl ?_
  refine sw_if_eq (pc' := 4) (tgt := 8) rfl dX3_oneIf_1 (by decide +kernel) (fun c1 => ?_) (fun c1 => ?_)
  · refine sw_iconst (pc' := 9) (v := 0) rfl dX3_oneIf_8 (by decide +kernel) ?_
    refine sw_ret (v := some _) ⟨dX3_oneIf_9, _, rfl, rfl⟩ ?_
    exact ⟨by rw [bI_0 c1]; rfl, rfl, rfl⟩
  · refine sw_iconst (pc' := 5) (v := 1) rfl dX3_oneIf_4 (by decide +kernel) ?_
    refine sw_goto (tgt := 9) dX3_oneIf_5 (by decide +kernel) ?_
    refine sw_ret (v := some _) ⟨dX3_oneIf_9, _, rfl, rfl⟩ ?_
    exact ⟨by rw [bI_1 c1]; rfl, rfl, rfl⟩
theorem m_shelfAt {h : AH} {σ : CS} {d bc bs n : Nat} {x : Int32} (hR : RC h σ) (h1 : 1 ≤ bc) (h2 : 6 ≤ bs) : SM SR0 MX3_shelfAt d bc bs [.ref 100, .int x] h n (Det (if x < 0 ∨ 11 ≤ x then xI else .inl (some (.ref (102 + 2 * x.toNatClampNeg)))) h n) := by
  refine sm_of pn_Overwalks rfl (Nat.le_of_ble_eq_true rfl) ?_
  refine sw_iload_n (pc' := 1) rfl dX3_shelfAt_0 rfl ?_
  refine sw_if_lt (pc' := 4) (tgt := 10) rfl dX3_shelfAt_1 (by decide +kernel) (fun c1 => ?_) (fun c1 => ?_)
  · refine sw_throwW (names := ["java/lang/RuntimeException", "java/lang/Exception"]) rfl dX3_shelfAt_10 dX3_shelfAt_13 dX3_shelfAt_14 dX3_shelfAt_17 dX3_shelfAt_20 (by decide +kernel) (by decide +kernel) (by decide +kernel) w_361 w_49 (SRm 3 rfl) th_Overwalks_339 (by omega) (by omega) ?_
    exact ⟨by rw [if_pos (Or.inl c1)]; rfl, rfl, rfl⟩
  · refine sw_iload_n (pc' := 5) rfl dX3_shelfAt_4 rfl ?_
    refine sw_bipush (pc' := 7) (v := 11) rfl dX3_shelfAt_5 (by decide +kernel) ?_
    refine sw_icmp_lt (pc' := 10) (tgt := 21) rfl dX3_shelfAt_7 (by decide +kernel) (fun c7 => ?_) (fun c7 => ?_)
    · obtain ⟨j, hj, rfl⟩ := nI_of c1
      obtain ⟨g, ga, gb⟩ := hR.2.1
      have hj2 : j < 11 := (nI_ltI (b := 11) hj (by decide +kernel)).mp c7
      refine sw_aload_n (pc' := 22) rfl dX3_shelfAt_21 rfl ?_
      refine sw_getf (ci := 4) (k := 0) (pc' := 25) rfl dX3_shelfAt_22 (by decide +kernel) w_150 hR.1 rfl ?_
      refine sw_iload_n (pc' := 26) rfl dX3_shelfAt_25 rfl ?_
      refine sw_aald (pc' := 27) rfl dX3_shelfAt_26 ga (by decide +kernel) (by decide +kernel) rfl hj2 (by decide +kernel) (gb j hj2) ?_
      refine sw_ret (v := some _) ⟨dX3_shelfAt_27, _, rfl, Or.inl ⟨_, rfl⟩⟩ ?_
      exact ⟨by rw [if_neg (fun q => q.elim c1 (Int32.not_le.mpr c7)), nI_clamp hj], rfl, rfl⟩
    · refine sw_throwW (names := ["java/lang/RuntimeException", "java/lang/Exception"]) rfl dX3_shelfAt_10 dX3_shelfAt_13 dX3_shelfAt_14 dX3_shelfAt_17 dX3_shelfAt_20 (by decide +kernel) (by decide +kernel) (by decide +kernel) w_361 w_49 (SRm 3 rfl) th_Overwalks_339 (by omega) (by omega) ?_
      exact ⟨by rw [if_pos (Or.inr (Int32.not_lt.mp c7))]; rfl, rfl, rfl⟩
theorem m_walkAt {h : AH} {σ : CS} {d bc bs n : Nat} {x : Int32} (hR : RC h σ) (h1 : 1 ≤ bc) (h2 : 6 ≤ bs) : SM SR0 MX3_walkAt d bc bs [.ref 100, .int x] h n (Det (if x < 0 ∨ 6 ≤ x then xI else .inl (some (.ref (125 + x.toNatClampNeg)))) h n) := by
  refine sm_of pn_Overwalks rfl (Nat.le_of_ble_eq_true rfl) ?_
  refine sw_iload_n (pc' := 1) rfl dX3_walkAt_0 rfl ?_
  refine sw_if_lt (pc' := 4) (tgt := 10) rfl dX3_walkAt_1 (by decide +kernel) (fun c1 => ?_) (fun c1 => ?_)
  · refine sw_throwW (names := ["java/lang/RuntimeException", "java/lang/Exception"]) rfl dX3_walkAt_10 dX3_walkAt_13 dX3_walkAt_14 dX3_walkAt_17 dX3_walkAt_20 (by decide +kernel) (by decide +kernel) (by decide +kernel) w_361 w_49 (SRm 1 rfl) th_Overwalks_339 (by omega) (by omega) ?_
    exact ⟨by rw [if_pos (Or.inl c1)]; rfl, rfl, rfl⟩
  · refine sw_iload_n (pc' := 5) rfl dX3_walkAt_4 rfl ?_
    refine sw_bipush (pc' := 7) (v := 6) rfl dX3_walkAt_5 (by decide +kernel) ?_
    refine sw_icmp_lt (pc' := 10) (tgt := 21) rfl dX3_walkAt_7 (by decide +kernel) (fun c7 => ?_) (fun c7 => ?_)
    · obtain ⟨j, hj, rfl⟩ := nI_of c1
      obtain ⟨g, ga, gb⟩ := hR.2.2.1
      have hj2 : j < 6 := (nI_ltI (b := 6) hj (by decide +kernel)).mp c7
      refine sw_aload_n (pc' := 22) rfl dX3_walkAt_21 rfl ?_
      refine sw_getf (ci := 4) (k := 1) (pc' := 25) rfl dX3_walkAt_22 (by decide +kernel) w_151 hR.1 rfl ?_
      refine sw_iload_n (pc' := 26) rfl dX3_walkAt_25 rfl ?_
      refine sw_aald (pc' := 27) rfl dX3_walkAt_26 ga (by decide +kernel) (by decide +kernel) rfl hj2 (by decide +kernel) (gb j hj2) ?_
      refine sw_ret (v := some _) ⟨dX3_walkAt_27, _, rfl, Or.inl ⟨_, rfl⟩⟩ ?_
      exact ⟨by rw [if_neg (fun q => q.elim c1 (Int32.not_le.mpr c7)), nI_clamp hj], rfl, rfl⟩
    · refine sw_throwW (names := ["java/lang/RuntimeException", "java/lang/Exception"]) rfl dX3_walkAt_10 dX3_walkAt_13 dX3_walkAt_14 dX3_walkAt_17 dX3_walkAt_20 (by decide +kernel) (by decide +kernel) (by decide +kernel) w_361 w_49 (SRm 1 rfl) th_Overwalks_339 (by omega) (by omega) ?_
      exact ⟨by rw [if_pos (Or.inr (Int32.not_lt.mp c7))]; rfl, rfl, rfl⟩
theorem m_refuse {h : AH} {σ : CS} {d bc bs n : Nat} (hR : RC h σ) : SM SR0 MX3_refuse d bc bs [.ref 100] h n (CP h n (rI (-9), rfU σ)) := by
  refine sm_of pn_Overwalks rfl (Nat.le_of_ble_eq_true rfl) ?_
  refine sw_aload_n (pc' := 1) rfl dX3_refuse_0 rfl ?_
  refine sw_dup (pc' := 2) rfl dX3_refuse_1 rfl ?_
  refine sw_getf (ci := 4) (k := 5) (pc' := 5) rfl dX3_refuse_2 (by decide +kernel) w_155 hR.1 rfl ?_
  refine sw_iconst (pc' := 6) (v := 1) rfl dX3_refuse_5 (by decide +kernel) ?_
  refine sw_iadd (pc' := 7) rfl dX3_refuse_6 ?_
  refine sw_putf (ci := 4) (k := 5) (pc' := 10) rfl dX3_refuse_7 (by decide +kernel) (by decide +kernel) w_155 rfl hR.1 (Nat.le_refl _) (Nat.le_of_ble_eq_true rfl) rfl rfl ?_
  refine sw_nm (fun g1 eg1 => ?_)
  have zk2 := (congrFun eg1 _).trans (up_s (h := h) (i := 100))
  refine sw_bipush (pc' := 12) (v := (-9)) rfl dX3_refuse_10 (by decide +kernel) ?_
  refine sw_ret (v := some _) ⟨dX3_refuse_12, _, rfl, rfl⟩ ?_
  have hF : FrW h g1 100 := (fun i h1 => (congrFun eg1 i).trans ((up_n h1).trans (rfl)))
  exact ⟨rfl, rfl, hR.oU zk2 hF, hF.c (by decide +kernel) (by decide +kernel)⟩
theorem m_knock {h : AH} {σ : CS} {d bc bs n : Nat} (hR : RC h σ) : SM SR0 MX3_knock d bc bs [.ref 100] h n (CP h n (rI (σ.2.2.2.2.2.2 + 1), knU σ)) := by
  refine sm_of pn_Overwalks rfl (Nat.le_of_ble_eq_true rfl) ?_
  refine sw_aload_n (pc' := 1) rfl dX3_knock_0 rfl ?_
  refine sw_dup (pc' := 2) rfl dX3_knock_1 rfl ?_
  refine sw_getf (ci := 4) (k := 6) (pc' := 5) rfl dX3_knock_2 (by decide +kernel) w_156 hR.1 rfl ?_
  refine sw_iconst (pc' := 6) (v := 1) rfl dX3_knock_5 (by decide +kernel) ?_
  refine sw_iadd (pc' := 7) rfl dX3_knock_6 ?_
  refine sw_putf (ci := 4) (k := 6) (pc' := 10) rfl dX3_knock_7 (by decide +kernel) (by decide +kernel) w_156 rfl hR.1 (Nat.le_refl _) (Nat.le_of_ble_eq_true rfl) rfl rfl ?_
  refine sw_nm (fun g1 eg1 => ?_)
  have zk2 := (congrFun eg1 _).trans (up_s (h := h) (i := 100))
  refine sw_aload_n (pc' := 11) rfl dX3_knock_10 rfl ?_
  refine sw_getf (ci := 4) (k := 6) (pc' := 14) rfl dX3_knock_11 (by decide +kernel) w_156 zk2 rfl ?_
  refine sw_ret (v := some _) ⟨dX3_knock_14, _, rfl, rfl⟩ ?_
  have hF : FrW h g1 100 := (fun i h1 => (congrFun eg1 i).trans ((up_n h1).trans (rfl)))
  exact ⟨rfl, rfl, hR.oU zk2 hF, hF.c (by decide +kernel) (by decide +kernel)⟩
end
section
/-! 17.ops -/
/-! what the calls do -/
theorem idxN (N : Nat) (hN : N < 2 ^ 31) (x : Int32) : (x < 0 ∨ nI N ≤ x) ∨ ∃ k : Nat, k < N ∧ x = nI k := by
  by_cases q : x < 0
  · exact Or.inl (Or.inl q)
  · obtain ⟨j, hj, rfl⟩ := nI_of q
    by_cases g : nI N ≤ nI j
    · exact Or.inl (Or.inr g)
    · exact Or.inr ⟨j, (nI_ltI hj hN).mp (Int32.not_le.mp g), rfl⟩
theorem nok {N k : Nat} (hN : N < 2 ^ 31) (hk : k < N) : ¬ (nI k < 0 ∨ nI N ≤ nI k) := fun q => q.elim (nI_pos (by omega)) (nI_ge hk hN)
def onSh (a : Int32) (σ : CS) (g : Nat → ARes × CS) : ARes × CS := if a < 0 ∨ 11 ≤ a then (xI, σ) else g a.toNatClampNeg
def onWk (a : Int32) (σ : CS) (g : Nat → ARes × CS) : ARes × CS := if a < 0 ∨ 6 ≤ a then (xI, σ) else g a.toNatClampNeg
def onRw (a : Int32) (σ : CS) (g : Nat → ARes × CS) : ARes × CS := onSh a σ (fun k => if kP (kdO k) = false then (xI, σ) else g k)
theorem onSh_x {a : Int32} {σ : CS} {g : Nat → ARes × CS} (q : a < 0 ∨ nI 11 ≤ a) : onSh a σ g = (xI, σ) := if_pos q
theorem onWk_x {a : Int32} {σ : CS} {g : Nat → ARes × CS} (q : a < 0 ∨ nI 6 ≤ a) : onWk a σ g = (xI, σ) := if_pos q
theorem onSh_k {k : Nat} {σ : CS} {g : Nat → ARes × CS} (hk : k < 11) : onSh (nI k) σ g = g k := (if_neg (nok (N := 11) (by decide +kernel) hk)).trans (by rw [nI_clamp (by omega)])
theorem onWk_k {k : Nat} {σ : CS} {g : Nat → ARes × CS} (hk : k < 6) : onWk (nI k) σ g = g k := (if_neg (nok (N := 6) (by decide +kernel) hk)).trans (by rw [nI_clamp (by omega)])
theorem onRw_x {a : Int32} {σ : CS} {g : Nat → ARes × CS} (q : a < 0 ∨ nI 11 ≤ a) : onRw a σ g = (xI, σ) := if_pos q
theorem onRw_y {k : Nat} {σ : CS} {g : Nat → ARes × CS} (hk : k < 11) (q : kP (kdO k) = false) : onRw (nI k) σ g = (xI, σ) := (onSh_k hk).trans (if_pos q)
theorem onRw_k {k : Nat} {σ : CS} {g : Nat → ARes × CS} (hk : k < 11) (q : ¬ kP (kdO k) = false) : onRw (nI k) σ g = g k := (onSh_k hk).trans (if_neg q)
def tkB (k : Nat) (x : Int32) : Bool := decide (x ≠ 100) || kN (kdO k)
/-- PUT, with room -/
def ldU (σ : CS) (k : Nat) (x : Int32) : CS := if ldY (σ.1 k) (σ.2.1 k) (kdO k) x then sU σ k (laN (σ.1 k) (ldP (σ.1 k) (σ.2.1 k) (kdO k) x) x (σ.2.1 k)) (σ.2.1 k + 1) (σ.2.2.1 k + 1) (σ.2.2.2.1 k) else σ
def wO (σ : CS) (k : Nat) : Nat := (σ.2.2.2.2.1 k).2.1
def wSt (σ : CS) (k : Nat) : Bool := decide (σ.2.2.1 (wO σ k) ≠ (σ.2.2.2.2.1 k).2.2.2.2.2.1)
def wHM (σ : CS) (k : Nat) : Bool := hmB (σ.2.1 (wO σ k)) (σ.2.2.1 (wO σ k)) (σ.2.2.2.2.1 k).2.2.2.1 (σ.2.2.2.2.1 k).2.2.2.2.1 (σ.2.2.2.2.1 k).2.2.2.2.2.1
def wAh (σ : CS) (k : Nat) : Int32 := (σ.2.2.2.2.1 k).2.2.2.1 - (σ.2.2.2.2.1 k).2.2.2.2.1
/-- the WALK gives m things -/
def gvU (σ : CS) (k m : Nat) : CS := wU σ k ((σ.2.2.2.2.1 k).1, wO σ k, (σ.2.2.2.2.1 k).2.2.1, (σ.2.2.2.2.1 k).2.2.2.1 + nI m, (σ.2.2.2.2.1 k).2.2.2.2.1, (σ.2.2.2.2.1 k).2.2.2.2.2.1, if m = 0 then (σ.2.2.2.2.1 k).2.2.2.2.2.2.1 else σ.2.2.2.1 (wO σ k), if m = 0 then (σ.2.2.2.2.1 k).2.2.2.2.2.2.2 else true)
def wGu (σ : CS) (k m : Nat) : Nat := guN (σ.2.1 (wO σ k)) (σ.2.2.1 (wO σ k)) (σ.2.2.2.2.1 k).2.2.2.2.1 (σ.2.2.2.2.1 k).2.2.2.2.2.1 (σ.2.2.2.2.1 k).2.2.2.1 m
def opSize (σ : CS) (a : Int32) : ARes × CS := onSh a σ (fun k => (rI (nI (σ.2.1 k)), σ))
def opIsEmpty (σ : CS) (a : Int32) : ARes × CS := onSh a σ (fun k => (rI (bI (decide (σ.2.1 k = 0))), σ))
def opHas (σ : CS) (a x : Int32) : ARes × CS := onSh a σ (fun k => if x < 0 ∨ 100 < x then (xA, σ) else if tkB k x = false then (rI (-9), rfU σ) else (rI (bI (fpN (σ.1 k) x 0 (σ.2.1 k)).isSome), σ))
def opOften (σ : CS) (a x : Int32) : ARes × CS := onSh a σ (fun k => if x < 0 ∨ 100 < x then (xA, σ) else (rI (nI (coN (σ.1 k) x 0 (σ.2.1 k))), σ))
def opFirst (σ : CS) (a y : Int32) : ARes × CS := onSh a σ (fun k => if σ.2.1 k = 0 then (rI (-9), rfU σ) else (rI (taI (σ.1 k) (σ.2.1 k) (if y = 0 then 0 else nI (σ.2.1 k) - 1)), σ))
def opPut (σ : CS) (a x : Int32) : ARes × CS := onSh a σ (fun k => if x < 0 ∨ 100 < x then (xA, σ) else if 12 < nI (σ.2.1 k) + 1 then (xS, σ) else if kdO k = 5 ∨ tkB k x = false then (rI (-9), rfU σ) else (rI (bI (ldY (σ.1 k) (σ.2.1 k) (kdO k) x)), ldU σ k x))
def opNext (σ : CS) (a : Int32) : ARes × CS := onWk a σ (fun k => if (σ.2.2.2.2.1 k).1 = false then (xS, σ) else if wHM σ k = false then (rI (-9), rfU σ) else (rI (taI (σ.1 (wO σ k)) (σ.2.1 (wO σ k)) (wAh σ k)), gvU σ k 1))
def opMore (σ : CS) (a : Int32) : ARes × CS := onWk a σ (fun k => if (σ.2.2.2.2.1 k).1 = false then (xS, σ) else if wSt σ k = true then (rI (-9), rfU σ) else (rI (bI (wHM σ k)), σ))
def opSkip (σ : CS) (a x : Int32) : ARes × CS := onWk a σ (fun k => if x < 0 ∨ 12 < x then (xA, σ) else if (σ.2.2.2.2.1 k).1 = false then (xS, σ) else if wSt σ k = true then (rI (-9), rfU σ) else (rI (nI (wGu σ k x.toNatClampNeg)), gvU σ k (wGu σ k x.toNatClampNeg)))
theorem m_requireThing_x {h : AH} {d bc bs n : Nat} {x : Int32}  (h1 : 1 ≤ bc) (h2 : 6 ≤ bs) (q : x < 0 ∨ 100 ≤ x) : SM SR0 MX3_requireThing d bc bs [.int x] h n (Det xA h n) := by
  have k := m_requireThing (h := h) (d := d) (n := n) (x := x) h1 h2
  rw [if_pos q] at k
  exact k
theorem m_requireThing_k {h : AH} {d bc bs n : Nat} {x : Int32}  (h1 : 1 ≤ bc) (h2 : 6 ≤ bs) (q : ¬ (x < 0 ∨ 100 ≤ x)) : SM SR0 MX3_requireThing d bc bs [.int x] h n (Det ivN h n) := by
  have k := m_requireThing (h := h) (d := d) (n := n) (x := x) h1 h2
  rw [if_neg q] at k
  exact k
theorem m_requireThingOrNothing_x {h : AH} {d bc bs n : Nat} {x : Int32}  (h1 : 1 ≤ bc) (h2 : 6 ≤ bs) (q : x < 0 ∨ 100 < x) : SM SR0 MX3_requireThingOrNothing d bc bs [.int x] h n (Det xA h n) := by
  have k := m_requireThingOrNothing (h := h) (d := d) (n := n) (x := x) h1 h2
  rw [if_pos q] at k
  exact k
theorem m_requireThingOrNothing_k {h : AH} {d bc bs n : Nat} {x : Int32}  (h1 : 1 ≤ bc) (h2 : 6 ≤ bs) (q : ¬ (x < 0 ∨ 100 < x)) : SM SR0 MX3_requireThingOrNothing d bc bs [.int x] h n (Det ivN h n) := by
  have k := m_requireThingOrNothing (h := h) (d := d) (n := n) (x := x) h1 h2
  rw [if_neg q] at k
  exact k
theorem m_requireUpToRoom_x {h : AH} {d bc bs n : Nat} {x : Int32}  (h1 : 1 ≤ bc) (h2 : 6 ≤ bs) (q : x < 0 ∨ 12 < x) : SM SR0 MX3_requireUpToRoom d bc bs [.int x] h n (Det xA h n) := by
  have k := m_requireUpToRoom (h := h) (d := d) (n := n) (x := x) h1 h2
  rw [if_pos q] at k
  exact k
theorem m_requireUpToRoom_k {h : AH} {d bc bs n : Nat} {x : Int32}  (h1 : 1 ≤ bc) (h2 : 6 ≤ bs) (q : ¬ (x < 0 ∨ 12 < x)) : SM SR0 MX3_requireUpToRoom d bc bs [.int x] h n (Det ivN h n) := by
  have k := m_requireUpToRoom (h := h) (d := d) (n := n) (x := x) h1 h2
  rw [if_neg q] at k
  exact k
theorem m_requireThingNothingOrNone_x {h : AH} {d bc bs n : Nat} {x : Int32}  (h1 : 1 ≤ bc) (h2 : 6 ≤ bs) (q : x < -1 ∨ 100 < x) : SM SR0 MX3_requireThingNothingOrNone d bc bs [.int x] h n (Det xA h n) := by
  have k := m_requireThingNothingOrNone (h := h) (d := d) (n := n) (x := x) h1 h2
  rw [if_pos q] at k
  exact k
theorem m_requireThingNothingOrNone_k {h : AH} {d bc bs n : Nat} {x : Int32}  (h1 : 1 ≤ bc) (h2 : 6 ≤ bs) (q : ¬ (x < -1 ∨ 100 < x)) : SM SR0 MX3_requireThingNothingOrNone d bc bs [.int x] h n (Det ivN h n) := by
  have k := m_requireThingNothingOrNone (h := h) (d := d) (n := n) (x := x) h1 h2
  rw [if_neg q] at k
  exact k
theorem m_requirePlace_x {h : AH} {d bc bs n : Nat} {x y : Int32}  (h1 : 1 ≤ bc) (h2 : 6 ≤ bs) (q : x < 0 ∨ y ≤ x) : SM SR0 MX3_requirePlace d bc bs [.int x, .int y] h n (Det xI h n) := by
  have k := m_requirePlace (h := h) (d := d) (n := n) (x := x) (y := y) h1 h2
  rw [if_pos q] at k
  exact k
theorem m_requirePlace_k {h : AH} {d bc bs n : Nat} {x y : Int32}  (h1 : 1 ≤ bc) (h2 : 6 ≤ bs) (q : ¬ (x < 0 ∨ y ≤ x)) : SM SR0 MX3_requirePlace d bc bs [.int x, .int y] h n (Det ivN h n) := by
  have k := m_requirePlace (h := h) (d := d) (n := n) (x := x) (y := y) h1 h2
  rw [if_neg q] at k
  exact k
theorem m_requireRoom_x {h : AH} {b kd c d bc bs n : Nat} {f : Nat → Int32} {s t x : Int32} (hS : ShF h b kd f c s t) (h1 : 1 ≤ bc) (h2 : 6 ≤ bs) (q : 12 < nI c + x) : SM SR0 MX3_requireRoom d bc bs [.ref b, .int x] h n (Det xS h n) := by
  have k := m_requireRoom (d := d) (n := n) (x := x) hS h1 h2
  rw [if_pos q] at k
  exact k
theorem m_requireRoom_k {h : AH} {b kd c d bc bs n : Nat} {f : Nat → Int32} {s t x : Int32} (hS : ShF h b kd f c s t) (h1 : 1 ≤ bc) (h2 : 6 ≤ bs) (q : ¬ (12 < nI c + x)) : SM SR0 MX3_requireRoom d bc bs [.ref b, .int x] h n (Det ivN h n) := by
  have k := m_requireRoom (d := d) (n := n) (x := x) hS h1 h2
  rw [if_neg q] at k
  exact k
theorem m_requireMade_x {h : AH} {w b d bc bs n : Nat} {mk la : Bool} {sh hw gi tk ss ts : Int32} (hW : WkF h w mk b sh hw gi tk ss ts la) (h1 : 1 ≤ bc) (h2 : 6 ≤ bs) (q : mk = false) : SM SR0 MX3_requireMade d bc bs [.ref w] h n (Det xS h n) := by
  have k := m_requireMade (d := d) (n := n) hW h1 h2
  rw [if_pos q] at k
  exact k
theorem m_requireMade_k {h : AH} {w b d bc bs n : Nat} {mk la : Bool} {sh hw gi tk ss ts : Int32} (hW : WkF h w mk b sh hw gi tk ss ts la) (h1 : 1 ≤ bc) (h2 : 6 ≤ bs) (q : ¬ (mk = false)) : SM SR0 MX3_requireMade d bc bs [.ref w] h n (Det ivN h n) := by
  have k := m_requireMade (d := d) (n := n) hW h1 h2
  rw [if_neg q] at k
  exact k
theorem m_shelfAt_x {h : AH} {σ : CS} {d bc bs n : Nat} {x : Int32} (hR : RC h σ) (h1 : 1 ≤ bc) (h2 : 6 ≤ bs) (q : x < 0 ∨ nI 11 ≤ x) : SM SR0 MX3_shelfAt d bc bs [.ref 100, .int x] h n (Det xI h n) := by
  have k := m_shelfAt (d := d) (n := n) (x := x) hR h1 h2
  rw [if_pos (show x < 0 ∨ 11 ≤ x from q)] at k
  exact k
theorem m_shelfAt_k {h : AH} {σ : CS} {d bc bs n : Nat} {k : Nat} (hR : RC h σ) (h1 : 1 ≤ bc) (h2 : 6 ≤ bs) (hk : k < 11) : SM SR0 MX3_shelfAt d bc bs [.ref 100, .int (nI k)] h n (Det (.inl (some (.ref (102 + 2 * k)))) h n) := by
  have k := m_shelfAt (d := d) (n := n) (x := nI k) hR h1 h2
  rw [if_neg (show ¬ (nI _ < 0 ∨ 11 ≤ nI _) from nok (N := 11) (by decide +kernel) hk), nI_clamp (by omega)] at k
  exact k
theorem m_walkAt_x {h : AH} {σ : CS} {d bc bs n : Nat} {x : Int32} (hR : RC h σ) (h1 : 1 ≤ bc) (h2 : 6 ≤ bs) (q : x < 0 ∨ nI 6 ≤ x) : SM SR0 MX3_walkAt d bc bs [.ref 100, .int x] h n (Det xI h n) := by
  have k := m_walkAt (d := d) (n := n) (x := x) hR h1 h2
  rw [if_pos (show x < 0 ∨ 6 ≤ x from q)] at k
  exact k
theorem m_walkAt_k {h : AH} {σ : CS} {d bc bs n : Nat} {k : Nat} (hR : RC h σ) (h1 : 1 ≤ bc) (h2 : 6 ≤ bs) (hk : k < 6) : SM SR0 MX3_walkAt d bc bs [.ref 100, .int (nI k)] h n (Det (.inl (some (.ref (125 + k)))) h n) := by
  have k := m_walkAt (d := d) (n := n) (x := nI k) hR h1 h2
  rw [if_neg (show ¬ (nI _ < 0 ∨ 6 ≤ nI _) from nok (N := 6) (by decide +kernel) hk), nI_clamp (by omega)] at k
  exact k
theorem m_size {h : AH} {σ : CS} {d bc bs n : Nat} {a : Int32} (hR : RC h σ) (hd : 6 ≤ d) (hb1 : 20 ≤ bc) (hb2 : 200 ≤ bs) : SM SR0 MX3_size d bc bs [.ref 100, .int a] h n (CP h n (opSize σ a)) := by
  refine sm_of pn_Overwalks rfl (Nat.le_of_ble_eq_true rfl) ?_
  refine sw_aload_n (pc' := 1) rfl dX3_size_0 rfl ?_
  refine sw_iload_n (pc' := 2) rfl dX3_size_1 rfl ?_
  rcases idxN 11 (by decide +kernel) a with q2 | ⟨k2, hk2, q2⟩
  · refine sw_V (M' := MX3_shelfAt) (d' := d - 1) (bc' := 1) (bs' := 6) (ci := 4) (as := [_]) dX3_size_2 w_402 ok_X3_shelfAt (m_shelfAt_x hR (Nat.le_refl _) (Nat.le_refl _) q2) hR.1 rfl (by omega) (Nat.le_of_ble_eq_true rfl) (by omega) (by omega) (dx_x (swx_out rfl ?_)) (fun v h' n' _ z => dx_k z)
    rw [opSize, onSh_x q2]
    exact ⟨rfl, rfl, hR, FrC.rf⟩
  subst q2
  refine sw_V (M' := MX3_shelfAt) (d' := d - 1) (bc' := 1) (bs' := 6) (ci := 4) (as := [_]) dX3_size_2 w_402 ok_X3_shelfAt (m_shelfAt_k hR (Nat.le_refl _) (Nat.le_refl _) hk2) hR.1 rfl (by omega) (Nat.le_of_ble_eq_true rfl) (by omega) (by omega) (fun E h' n' _ z => det_x z) (det_k ?_)
  refine sw_getf (ci := 2) (k := 2) (pc' := 8) rfl dX3_size_5 (by decide +kernel) w_84 (hR.sh hk2).1 rfl ?_
  refine sw_ret (v := some _) ⟨dX3_size_8, _, rfl, rfl⟩ ?_
  rw [opSize, onSh_k hk2]
  exact ⟨rfl, rfl, hR, FrC.rf⟩
theorem m_isEmpty {h : AH} {σ : CS} {d bc bs n : Nat} {a : Int32} (hR : RC h σ) (hd : 6 ≤ d) (hb1 : 20 ≤ bc) (hb2 : 200 ≤ bs) : SM SR0 MX3_isEmpty d bc bs [.ref 100, .int a] h n (CP h n (opIsEmpty σ a)) := by
  refine sm_of pn_Overwalks rfl (Nat.le_of_ble_eq_true rfl) ?_
  refine sw_aload_n (pc' := 1) rfl dX3_isEmpty_0 rfl ?_
  refine sw_iload_n (pc' := 2) rfl dX3_isEmpty_1 rfl ?_
  rcases idxN 11 (by decide +kernel) a with q2 | ⟨k2, hk2, q2⟩
  · refine sw_V (M' := MX3_shelfAt) (d' := d - 1) (bc' := 1) (bs' := 6) (ci := 4) (as := [_]) dX3_isEmpty_2 w_402 ok_X3_shelfAt (m_shelfAt_x hR (Nat.le_refl _) (Nat.le_refl _) q2) hR.1 rfl (by omega) (Nat.le_of_ble_eq_true rfl) (by omega) (by omega) (dx_x (swx_out rfl ?_)) (fun v h' n' _ z => dx_k z)
    rw [opIsEmpty, onSh_x q2]
    exact ⟨rfl, rfl, hR, FrC.rf⟩
  subst q2
  refine sw_V (M' := MX3_shelfAt) (d' := d - 1) (bc' := 1) (bs' := 6) (ci := 4) (as := [_]) dX3_isEmpty_2 w_402 ok_X3_shelfAt (m_shelfAt_k hR (Nat.le_refl _) (Nat.le_refl _) hk2) hR.1 rfl (by omega) (Nat.le_of_ble_eq_true rfl) (by omega) (by omega) (fun E h' n' _ z => det_x z) (det_k ?_)
  refine sw_getf (ci := 2) (k := 2) (pc' := 8) rfl dX3_isEmpty_5 (by decide +kernel) w_84 (hR.sh hk2).1 rfl ?_
  refine sw_if_ne (pc' := 11) (tgt := 15) rfl dX3_isEmpty_8 (by decide +kernel) (fun c8 => ?_) (fun c8 => ?_)
  · refine sw_iconst (pc' := 16) (v := 0) rfl dX3_isEmpty_15 (by decide +kernel) ?_
    refine sw_ret (v := some _) ⟨dX3_isEmpty_16, _, rfl, rfl⟩ ?_
    rw [opIsEmpty, onSh_k hk2, decide_eq_false (fun e => c8 (by rw [e]; rfl))]
    exact ⟨rfl, rfl, hR, FrC.rf⟩
  · refine sw_iconst (pc' := 12) (v := 1) rfl dX3_isEmpty_11 (by decide +kernel) ?_
    refine sw_goto (tgt := 16) dX3_isEmpty_12 (by decide +kernel) ?_
    refine sw_ret (v := some _) ⟨dX3_isEmpty_16, _, rfl, rfl⟩ ?_
    rw [opIsEmpty, onSh_k hk2, decide_eq_true (Nat.eq_zero_of_not_pos (fun g => nI_ne0 g (by have := (hR.sh hk2).2.2.1; omega) c8))]
    exact ⟨rfl, rfl, hR, FrC.rf⟩
theorem m_has {h : AH} {σ : CS} {d bc bs n : Nat} {a x : Int32} (hR : RC h σ) (hd : 6 ≤ d) (hb1 : 20 ≤ bc) (hb2 : 200 ≤ bs) : SM SR0 MX3_has d bc bs [.ref 100, .int a, .int x] h n (CP h n (opHas σ a x)) := by
  refine sm_of pn_Overwalks rfl (Nat.le_of_ble_eq_true rfl) ?_
  refine sw_aload_n (pc' := 1) rfl dX3_has_0 rfl ?_
  refine sw_iload_n (pc' := 2) rfl dX3_has_1 rfl ?_
  rcases idxN 11 (by decide +kernel) a with q2 | ⟨k2, hk2, q2⟩
  · refine sw_V (M' := MX3_shelfAt) (d' := d - 1) (bc' := 1) (bs' := 6) (ci := 4) (as := [_]) dX3_has_2 w_402 ok_X3_shelfAt (m_shelfAt_x hR (Nat.le_refl _) (Nat.le_refl _) q2) hR.1 rfl (by omega) (Nat.le_of_ble_eq_true rfl) (by omega) (by omega) (dx_x (swx_out rfl ?_)) (fun v h' n' _ z => dx_k z)
    rw [opHas, onSh_x q2]
    exact ⟨rfl, rfl, hR, FrC.rf⟩
  subst q2
  refine sw_V (M' := MX3_shelfAt) (d' := d - 1) (bc' := 1) (bs' := 6) (ci := 4) (as := [_]) dX3_has_2 w_402 ok_X3_shelfAt (m_shelfAt_k hR (Nat.le_refl _) (Nat.le_refl _) hk2) hR.1 rfl (by omega) (Nat.le_of_ble_eq_true rfl) (by omega) (by omega) (fun E h' n' _ z => det_x z) (det_k ?_)
  refine sw_astore_n (pc' := 6) (lv' := [(3, _), (0, _), (1, _), (2, _)]) rfl dX3_has_5 (by decide +kernel) rfl ?_
  refine sw_iload_n (pc' := 7) rfl dX3_has_6 rfl ?_
  rcases Classical.em (x < 0 ∨ 100 < x) with q7 | q7
  · refine sw_S (M' := MX3_requireThingOrNothing) (d' := d - 1) (bc' := 1) (bs' := 6) (as := [_]) dX3_has_7 w_407 ok_X3_requireThingOrNothing (m_requireThingOrNothing_x (Nat.le_refl _) (Nat.le_refl _) q7) (by omega) (Nat.le_of_ble_eq_true rfl) (by omega) (by omega) (dx_x (swx_out rfl ?_)) (fun v h' n' _ z => dx_k z)
    rw [opHas, onSh_k hk2, if_pos q7]
    exact ⟨rfl, rfl, hR, FrC.rf⟩
  refine sw_S (M' := MX3_requireThingOrNothing) (d' := d - 1) (bc' := 1) (bs' := 6) (as := [_]) dX3_has_7 w_407 ok_X3_requireThingOrNothing (m_requireThingOrNothing_k (Nat.le_refl _) (Nat.le_refl _) q7) (by omega) (Nat.le_of_ble_eq_true rfl) (by omega) (by omega) (fun E h' n' _ z => det_x z) (det_k ?_)
  refine sw_aload_n (pc' := 11) rfl dX3_has_10 rfl ?_
  refine sw_iload_n (pc' := 12) rfl dX3_has_11 rfl ?_
  refine sw_V (M' := MX1_takesIn) (d' := d - 1) (bc' := 0) (bs' := 0) (ci := 2) (as := [_]) dX3_has_12 w_435 ok_X1_takesIn (m_takesIn (hR.sh hk2) (hR.kd kdO_r)) (hR.sh hk2).1 rfl (by omega) (Nat.le_of_ble_eq_true rfl) (by omega) (by omega) (fun E h' n' _ z => det_x z) (det_k ?_)
  refine sw_if_ne (pc' := 18) (tgt := 23) rfl dX3_has_15 (by decide +kernel) (fun c15 => ?_) (fun c15 => ?_)
  · refine sw_aload_n (pc' := 24) rfl dX3_has_23 rfl ?_
    refine sw_iload_n (pc' := 25) rfl dX3_has_24 rfl ?_
    refine sw_V (M' := MX1_holds) (d' := d - 1) (bc' := 0) (bs' := 0) (ci := 2) (as := [_]) dX3_has_25 w_530 ok_X1_holds (m_holds (hR.sh hk2) (by omega)) (hR.sh hk2).1 rfl (by omega) (Nat.le_of_ble_eq_true rfl) (by omega) (by omega) (fun E h' n' _ z => det_x z) (det_k ?_)
    refine sw_S (M' := MX3_oneIf) (d' := d - 1) (bc' := 0) (bs' := 0) (as := [_]) dX3_has_28 w_277 ok_X3_oneIf (m_oneIf) (by omega) (Nat.le_of_ble_eq_true rfl) (by omega) (by omega) (fun E h' n' _ z => det_x z) (det_k ?_)
    refine sw_ret (v := some _) ⟨dX3_has_31, _, rfl, rfl⟩ ?_
    rw [opHas, onSh_k hk2, if_neg q7, if_neg (fun q : tkB k2 x = false => by unfold tkB at q; rw [q] at c15; exact c15 rfl)]
    exact ⟨rfl, rfl, hR, FrC.rf⟩
  · refine sw_aload_n (pc' := 19) rfl dX3_has_18 rfl ?_
    refine sw_V (M' := MX3_refuse) (d' := d - 1) (bc' := 0) (bs' := 0) (ci := 4) (as := []) dX3_has_19 w_439 ok_X3_refuse (m_refuse hR) hR.1 rfl (by omega) (Nat.le_of_ble_eq_true rfl) (by omega) (by omega) (fun E h' n' _ z => cp_x z) (cp_k (fun p19 p19R p19F => ?_))
    refine sw_ret (v := some _) ⟨dX3_has_22, _, rfl, rfl⟩ ?_
    rw [opHas, onSh_k hk2, if_neg q7, if_pos (bI_0 c15 : tkB k2 x = false)]
    exact ⟨rfl, rfl, p19R, p19F⟩
theorem m_often {h : AH} {σ : CS} {d bc bs n : Nat} {a x : Int32} (hR : RC h σ) (hd : 6 ≤ d) (hb1 : 20 ≤ bc) (hb2 : 200 ≤ bs) : SM SR0 MX3_often d bc bs [.ref 100, .int a, .int x] h n (CP h n (opOften σ a x)) := by
  refine sm_of pn_Overwalks rfl (Nat.le_of_ble_eq_true rfl) ?_
  refine sw_aload_n (pc' := 1) rfl dX3_often_0 rfl ?_
  refine sw_iload_n (pc' := 2) rfl dX3_often_1 rfl ?_
  rcases idxN 11 (by decide +kernel) a with q2 | ⟨k2, hk2, q2⟩
  · refine sw_V (M' := MX3_shelfAt) (d' := d - 1) (bc' := 1) (bs' := 6) (ci := 4) (as := [_]) dX3_often_2 w_402 ok_X3_shelfAt (m_shelfAt_x hR (Nat.le_refl _) (Nat.le_refl _) q2) hR.1 rfl (by omega) (Nat.le_of_ble_eq_true rfl) (by omega) (by omega) (dx_x (swx_out rfl ?_)) (fun v h' n' _ z => dx_k z)
    rw [opOften, onSh_x q2]
    exact ⟨rfl, rfl, hR, FrC.rf⟩
  subst q2
  refine sw_V (M' := MX3_shelfAt) (d' := d - 1) (bc' := 1) (bs' := 6) (ci := 4) (as := [_]) dX3_often_2 w_402 ok_X3_shelfAt (m_shelfAt_k hR (Nat.le_refl _) (Nat.le_refl _) hk2) hR.1 rfl (by omega) (Nat.le_of_ble_eq_true rfl) (by omega) (by omega) (fun E h' n' _ z => det_x z) (det_k ?_)
  refine sw_astore_n (pc' := 6) (lv' := [(3, _), (0, _), (1, _), (2, _)]) rfl dX3_often_5 (by decide +kernel) rfl ?_
  refine sw_iload_n (pc' := 7) rfl dX3_often_6 rfl ?_
  rcases Classical.em (x < 0 ∨ 100 < x) with q7 | q7
  · refine sw_S (M' := MX3_requireThingOrNothing) (d' := d - 1) (bc' := 1) (bs' := 6) (as := [_]) dX3_often_7 w_407 ok_X3_requireThingOrNothing (m_requireThingOrNothing_x (Nat.le_refl _) (Nat.le_refl _) q7) (by omega) (Nat.le_of_ble_eq_true rfl) (by omega) (by omega) (dx_x (swx_out rfl ?_)) (fun v h' n' _ z => dx_k z)
    rw [opOften, onSh_k hk2, if_pos q7]
    exact ⟨rfl, rfl, hR, FrC.rf⟩
  refine sw_S (M' := MX3_requireThingOrNothing) (d' := d - 1) (bc' := 1) (bs' := 6) (as := [_]) dX3_often_7 w_407 ok_X3_requireThingOrNothing (m_requireThingOrNothing_k (Nat.le_refl _) (Nat.le_refl _) q7) (by omega) (Nat.le_of_ble_eq_true rfl) (by omega) (by omega) (fun E h' n' _ z => det_x z) (det_k ?_)
  refine sw_aload_n (pc' := 11) rfl dX3_often_10 rfl ?_
  refine sw_iload_n (pc' := 12) rfl dX3_often_11 rfl ?_
  refine sw_V (M' := MX1_countOf) (d' := d - 1) (bc' := 0) (bs' := 0) (ci := 2) (as := [_]) dX3_often_12 w_269 ok_X1_countOf (m_countOf (hR.sh hk2)) (hR.sh hk2).1 rfl (by omega) (Nat.le_of_ble_eq_true rfl) (by omega) (by omega) (fun E h' n' _ z => det_x z) (det_k ?_)
  refine sw_ret (v := some _) ⟨dX3_often_15, _, rfl, rfl⟩ ?_
  rw [opOften, onSh_k hk2, if_neg q7]
  exact ⟨rfl, rfl, hR, FrC.rf⟩
theorem m_first {h : AH} {σ : CS} {d bc bs n : Nat} {a y : Int32} (hR : RC h σ) (hd : 6 ≤ d) (hb1 : 20 ≤ bc) (hb2 : 200 ≤ bs) : SM SR0 MX3_first d bc bs [.ref 100, .int a, .int y] h n (CP h n (opFirst σ a y)) := by
  refine sm_of pn_Overwalks rfl (Nat.le_of_ble_eq_true rfl) ?_
  refine sw_aload_n (pc' := 1) rfl dX3_first_0 rfl ?_
  refine sw_iload_n (pc' := 2) rfl dX3_first_1 rfl ?_
  rcases idxN 11 (by decide +kernel) a with q2 | ⟨k2, hk2, q2⟩
  · refine sw_V (M' := MX3_shelfAt) (d' := d - 1) (bc' := 1) (bs' := 6) (ci := 4) (as := [_]) dX3_first_2 w_402 ok_X3_shelfAt (m_shelfAt_x hR (Nat.le_refl _) (Nat.le_refl _) q2) hR.1 rfl (by omega) (Nat.le_of_ble_eq_true rfl) (by omega) (by omega) (dx_x (swx_out rfl ?_)) (fun v h' n' _ z => dx_k z)
    rw [opFirst, onSh_x q2]
    exact ⟨rfl, rfl, hR, FrC.rf⟩
  subst q2
  refine sw_V (M' := MX3_shelfAt) (d' := d - 1) (bc' := 1) (bs' := 6) (ci := 4) (as := [_]) dX3_first_2 w_402 ok_X3_shelfAt (m_shelfAt_k hR (Nat.le_refl _) (Nat.le_refl _) hk2) hR.1 rfl (by omega) (Nat.le_of_ble_eq_true rfl) (by omega) (by omega) (fun E h' n' _ z => det_x z) (det_k ?_)
  refine sw_astore_n (pc' := 6) (lv' := [(3, _), (0, _), (1, _), (2, _)]) rfl dX3_first_5 (by decide +kernel) rfl ?_
  refine sw_aload_n (pc' := 7) rfl dX3_first_6 rfl ?_
  refine sw_getf (ci := 2) (k := 2) (pc' := 10) rfl dX3_first_7 (by decide +kernel) w_84 (hR.sh hk2).1 rfl ?_
  refine sw_if_ne (pc' := 13) (tgt := 18) rfl dX3_first_10 (by decide +kernel) (fun c10 => ?_) (fun c10 => ?_)
  · refine sw_aload_n (pc' := 19) rfl dX3_first_18 rfl ?_
    refine sw_iload_n (pc' := 20) rfl dX3_first_19 rfl ?_
    refine sw_if_eq (pc' := 23) (tgt := 32) rfl dX3_first_20 (by decide +kernel) (fun c20 => ?_) (fun c20 => ?_)
    · refine sw_iconst (pc' := 33) (v := 0) rfl dX3_first_32 (by decide +kernel) ?_
      refine sw_V (M' := MX1_thingAt) (d' := d - 1) (bc' := 0) (bs' := 0) (ci := 2) (as := [_]) dX3_first_33 w_230 ok_X1_thingAt (m_thingAt (hR.sh hk2)) (hR.sh hk2).1 rfl (by omega) (Nat.le_of_ble_eq_true rfl) (by omega) (by omega) (fun E h' n' _ z => det_x z) (det_k ?_)
      refine sw_ret (v := some _) ⟨dX3_first_36, _, rfl, rfl⟩ ?_
      rw [opFirst, onSh_k hk2, if_neg (fun e => c10 (by rw [e]; rfl)), if_pos c20]
      exact ⟨rfl, rfl, hR, FrC.rf⟩
    · refine sw_aload_n (pc' := 24) rfl dX3_first_23 rfl ?_
      refine sw_getf (ci := 2) (k := 2) (pc' := 27) rfl dX3_first_24 (by decide +kernel) w_84 (hR.sh hk2).1 rfl ?_
      refine sw_iconst (pc' := 28) (v := 1) rfl dX3_first_27 (by decide +kernel) ?_
      refine sw_isub (pc' := 29) rfl dX3_first_28 ?_
      refine sw_goto (tgt := 33) dX3_first_29 (by decide +kernel) ?_
      refine sw_V (M' := MX1_thingAt) (d' := d - 1) (bc' := 0) (bs' := 0) (ci := 2) (as := [_]) dX3_first_33 w_230 ok_X1_thingAt (m_thingAt (hR.sh hk2)) (hR.sh hk2).1 rfl (by omega) (Nat.le_of_ble_eq_true rfl) (by omega) (by omega) (fun E h' n' _ z => det_x z) (det_k ?_)
      refine sw_ret (v := some _) ⟨dX3_first_36, _, rfl, rfl⟩ ?_
      rw [opFirst, onSh_k hk2, if_neg (fun e => c10 (by rw [e]; rfl)), if_neg c20]
      exact ⟨rfl, rfl, hR, FrC.rf⟩
  · refine sw_aload_n (pc' := 14) rfl dX3_first_13 rfl ?_
    refine sw_V (M' := MX3_refuse) (d' := d - 1) (bc' := 0) (bs' := 0) (ci := 4) (as := []) dX3_first_14 w_439 ok_X3_refuse (m_refuse hR) hR.1 rfl (by omega) (Nat.le_of_ble_eq_true rfl) (by omega) (by omega) (fun E h' n' _ z => cp_x z) (cp_k (fun p14 p14R p14F => ?_))
    refine sw_ret (v := some _) ⟨dX3_first_17, _, rfl, rfl⟩ ?_
    rw [opFirst, onSh_k hk2, if_pos (Nat.eq_zero_of_not_pos (fun g => nI_ne0 g (by have := (hR.sh hk2).2.2.1; omega) c10))]
    exact ⟨rfl, rfl, p14R, p14F⟩
theorem m_next {h : AH} {σ : CS} {d bc bs n : Nat} {a : Int32} (hR : RC h σ) (hd : 6 ≤ d) (hb1 : 20 ≤ bc) (hb2 : 200 ≤ bs) : SM SR0 MX3_next d bc bs [.ref 100, .int a] h n (CP h n (opNext σ a)) := by
  refine sm_of pn_Overwalks rfl (Nat.le_of_ble_eq_true rfl) ?_
  refine sw_aload_n (pc' := 1) rfl dX3_next_0 rfl ?_
  refine sw_iload_n (pc' := 2) rfl dX3_next_1 rfl ?_
  rcases idxN 6 (by decide +kernel) a with q2 | ⟨k2, hk2, q2⟩
  · refine sw_V (M' := MX3_walkAt) (d' := d - 1) (bc' := 1) (bs' := 6) (ci := 4) (as := [_]) dX3_next_2 w_357 ok_X3_walkAt (m_walkAt_x hR (Nat.le_refl _) (Nat.le_refl _) q2) hR.1 rfl (by omega) (Nat.le_of_ble_eq_true rfl) (by omega) (by omega) (dx_x (swx_out rfl ?_)) (fun v h' n' _ z => dx_k z)
    rw [opNext, onWk_x q2]
    exact ⟨rfl, rfl, hR, FrC.rf⟩
  subst q2
  refine sw_V (M' := MX3_walkAt) (d' := d - 1) (bc' := 1) (bs' := 6) (ci := 4) (as := [_]) dX3_next_2 w_357 ok_X3_walkAt (m_walkAt_k hR (Nat.le_refl _) (Nat.le_refl _) hk2) hR.1 rfl (by omega) (Nat.le_of_ble_eq_true rfl) (by omega) (by omega) (fun E h' n' _ z => det_x z) (det_k ?_)
  refine sw_astore_n (pc' := 6) (lv' := [(2, _), (0, _), (1, _)]) rfl dX3_next_5 (by decide +kernel) rfl ?_
  refine sw_aload_n (pc' := 7) rfl dX3_next_6 rfl ?_
  rcases Classical.em ((σ.2.2.2.2.1 k2).1 = false) with q7 | q7
  · refine sw_S (M' := MX3_requireMade) (d' := d - 1) (bc' := 1) (bs' := 6) (as := [_]) dX3_next_7 w_640 ok_X3_requireMade (m_requireMade_x (hR.wk hk2).2 (Nat.le_refl _) (Nat.le_refl _) q7) (by omega) (Nat.le_of_ble_eq_true rfl) (by omega) (by omega) (dx_x (swx_out rfl ?_)) (fun v h' n' _ z => dx_k z)
    rw [opNext, onWk_k hk2, if_pos q7]
    exact ⟨rfl, rfl, hR, FrC.rf⟩
  refine sw_S (M' := MX3_requireMade) (d' := d - 1) (bc' := 1) (bs' := 6) (as := [_]) dX3_next_7 w_640 ok_X3_requireMade (m_requireMade_k (hR.wk hk2).2 (Nat.le_refl _) (Nat.le_refl _) q7) (by omega) (Nat.le_of_ble_eq_true rfl) (by omega) (by omega) (fun E h' n' _ z => det_x z) (det_k ?_)
  refine sw_aload_n (pc' := 11) rfl dX3_next_10 rfl ?_
  refine sw_V (M' := MX2_hasMore) (d' := d - 1) (bc' := 0) (bs' := 0) (ci := 3) (as := []) dX3_next_11 w_188 ok_X2_hasMore (m_hasMore (hR.wk hk2).2 (hR.sh (hR.wk hk2).1) (by omega)) (hR.wk hk2).2.1 rfl (by omega) (Nat.le_of_ble_eq_true rfl) (by omega) (by omega) (fun E h' n' _ z => det_x z) (det_k ?_)
  refine sw_if_ne (pc' := 17) (tgt := 22) rfl dX3_next_14 (by decide +kernel) (fun c14 => ?_) (fun c14 => ?_)
  · refine sw_aload_n (pc' := 23) rfl dX3_next_22 rfl ?_
    have ov23 := (hR.wk hk2).1
    refine sw_V (M' := MX2_give) (d' := d - 1) (bc' := 0) (bs' := 0) (ci := 3) (as := []) dX3_next_23 w_200 ok_X2_give (m_give (hR.wk hk2).2 (hR.sh (hR.wk hk2).1) (by omega) (by omega)) (hR.wk hk2).2.1 rfl (by omega) (Nat.le_of_ble_eq_true rfl) (by omega) (by omega) (fun E h' n' _ z => wkp_x z) (wkp_k (fun p23 p23W p23F => ?_))
    refine sw_ret (v := some _) ⟨dX3_next_26, _, rfl, rfl⟩ ?_
    rw [opNext, onWk_k hk2, if_neg q7, if_neg (by rw [show wHM σ k2 = true from bI_1 c14]; decide)]
    exact ⟨rfl, rfl, (hR.wU hk2 ⟨(hR.wk hk2).1, p23W⟩ p23F), (p23F.c (by omega) (by omega))⟩
  · refine sw_aload_n (pc' := 18) rfl dX3_next_17 rfl ?_
    refine sw_V (M' := MX3_refuse) (d' := d - 1) (bc' := 0) (bs' := 0) (ci := 4) (as := []) dX3_next_18 w_439 ok_X3_refuse (m_refuse hR) hR.1 rfl (by omega) (Nat.le_of_ble_eq_true rfl) (by omega) (by omega) (fun E h' n' _ z => cp_x z) (cp_k (fun p18 p18R p18F => ?_))
    refine sw_ret (v := some _) ⟨dX3_next_21, _, rfl, rfl⟩ ?_
    rw [opNext, onWk_k hk2, if_neg q7, if_pos (bI_0 c14 : wHM σ k2 = false)]
    exact ⟨rfl, rfl, p18R, p18F⟩
theorem m_more {h : AH} {σ : CS} {d bc bs n : Nat} {a : Int32} (hR : RC h σ) (hd : 6 ≤ d) (hb1 : 20 ≤ bc) (hb2 : 200 ≤ bs) : SM SR0 MX3_more d bc bs [.ref 100, .int a] h n (CP h n (opMore σ a)) := by
  refine sm_of pn_Overwalks rfl (Nat.le_of_ble_eq_true rfl) ?_
  refine sw_aload_n (pc' := 1) rfl dX3_more_0 rfl ?_
  refine sw_iload_n (pc' := 2) rfl dX3_more_1 rfl ?_
  rcases idxN 6 (by decide +kernel) a with q2 | ⟨k2, hk2, q2⟩
  · refine sw_V (M' := MX3_walkAt) (d' := d - 1) (bc' := 1) (bs' := 6) (ci := 4) (as := [_]) dX3_more_2 w_357 ok_X3_walkAt (m_walkAt_x hR (Nat.le_refl _) (Nat.le_refl _) q2) hR.1 rfl (by omega) (Nat.le_of_ble_eq_true rfl) (by omega) (by omega) (dx_x (swx_out rfl ?_)) (fun v h' n' _ z => dx_k z)
    rw [opMore, onWk_x q2]
    exact ⟨rfl, rfl, hR, FrC.rf⟩
  subst q2
  refine sw_V (M' := MX3_walkAt) (d' := d - 1) (bc' := 1) (bs' := 6) (ci := 4) (as := [_]) dX3_more_2 w_357 ok_X3_walkAt (m_walkAt_k hR (Nat.le_refl _) (Nat.le_refl _) hk2) hR.1 rfl (by omega) (Nat.le_of_ble_eq_true rfl) (by omega) (by omega) (fun E h' n' _ z => det_x z) (det_k ?_)
  refine sw_astore_n (pc' := 6) (lv' := [(2, _), (0, _), (1, _)]) rfl dX3_more_5 (by decide +kernel) rfl ?_
  refine sw_aload_n (pc' := 7) rfl dX3_more_6 rfl ?_
  rcases Classical.em ((σ.2.2.2.2.1 k2).1 = false) with q7 | q7
  · refine sw_S (M' := MX3_requireMade) (d' := d - 1) (bc' := 1) (bs' := 6) (as := [_]) dX3_more_7 w_640 ok_X3_requireMade (m_requireMade_x (hR.wk hk2).2 (Nat.le_refl _) (Nat.le_refl _) q7) (by omega) (Nat.le_of_ble_eq_true rfl) (by omega) (by omega) (dx_x (swx_out rfl ?_)) (fun v h' n' _ z => dx_k z)
    rw [opMore, onWk_k hk2, if_pos q7]
    exact ⟨rfl, rfl, hR, FrC.rf⟩
  refine sw_S (M' := MX3_requireMade) (d' := d - 1) (bc' := 1) (bs' := 6) (as := [_]) dX3_more_7 w_640 ok_X3_requireMade (m_requireMade_k (hR.wk hk2).2 (Nat.le_refl _) (Nat.le_refl _) q7) (by omega) (Nat.le_of_ble_eq_true rfl) (by omega) (by omega) (fun E h' n' _ z => det_x z) (det_k ?_)
  refine sw_aload_n (pc' := 11) rfl dX3_more_10 rfl ?_
  refine sw_V (M' := MX2_isStale) (d' := d - 1) (bc' := 0) (bs' := 0) (ci := 3) (as := []) dX3_more_11 w_284 ok_X2_isStale (m_isStale (hR.wk hk2).2 (hR.sh (hR.wk hk2).1)) (hR.wk hk2).2.1 rfl (by omega) (Nat.le_of_ble_eq_true rfl) (by omega) (by omega) (fun E h' n' _ z => det_x z) (det_k ?_)
  refine sw_if_eq (pc' := 17) (tgt := 22) rfl dX3_more_14 (by decide +kernel) (fun c14 => ?_) (fun c14 => ?_)
  · refine sw_aload_n (pc' := 23) rfl dX3_more_22 rfl ?_
    refine sw_V (M' := MX2_hasMore) (d' := d - 1) (bc' := 0) (bs' := 0) (ci := 3) (as := []) dX3_more_23 w_188 ok_X2_hasMore (m_hasMore (hR.wk hk2).2 (hR.sh (hR.wk hk2).1) (by omega)) (hR.wk hk2).2.1 rfl (by omega) (Nat.le_of_ble_eq_true rfl) (by omega) (by omega) (fun E h' n' _ z => det_x z) (det_k ?_)
    refine sw_S (M' := MX3_oneIf) (d' := d - 1) (bc' := 0) (bs' := 0) (as := [_]) dX3_more_26 w_277 ok_X3_oneIf (m_oneIf) (by omega) (Nat.le_of_ble_eq_true rfl) (by omega) (by omega) (fun E h' n' _ z => det_x z) (det_k ?_)
    refine sw_ret (v := some _) ⟨dX3_more_29, _, rfl, rfl⟩ ?_
    rw [opMore, onWk_k hk2, if_neg q7, if_neg (by rw [show wSt σ k2 = false from bI_0 c14]; decide)]
    exact ⟨rfl, rfl, hR, FrC.rf⟩
  · refine sw_aload_n (pc' := 18) rfl dX3_more_17 rfl ?_
    refine sw_V (M' := MX3_refuse) (d' := d - 1) (bc' := 0) (bs' := 0) (ci := 4) (as := []) dX3_more_18 w_439 ok_X3_refuse (m_refuse hR) hR.1 rfl (by omega) (Nat.le_of_ble_eq_true rfl) (by omega) (by omega) (fun E h' n' _ z => cp_x z) (cp_k (fun p18 p18R p18F => ?_))
    refine sw_ret (v := some _) ⟨dX3_more_21, _, rfl, rfl⟩ ?_
    rw [opMore, onWk_k hk2, if_neg q7, if_pos (bI_1 c14 : wSt σ k2 = true)]
    exact ⟨rfl, rfl, p18R, p18F⟩
end
section
/-! 18.ops -/
/-! more calls -/
theorem roomC {c : Nat} (hc : c ≤ 12) (q : ¬ 12 < nI c + 1) : c < 12 := by
  apply Nat.lt_of_not_le
  intro g
  have e : c = 12 := by omega
  subst e
  exact q (by decide +kernel)
theorem sU_id {σ : CS} {k : Nat} : sU σ k (σ.1 k) (σ.2.1 k) (σ.2.2.1 k) (σ.2.2.2.1 k) = σ := by
  unfold sU
  rw [up_id, up_id, up_id, up_id]
theorem RC.ldS {h h' : AH} {σ : CS} (hR : RC h σ) {k : Nat} {x : Int32} (hk : k < 11) (hS : ShF h' (102 + 2 * k) (kdO k) (if ldY (σ.1 k) (σ.2.1 k) (kdO k) x then laN (σ.1 k) (ldP (σ.1 k) (σ.2.1 k) (kdO k) x) x (σ.2.1 k) else σ.1 k) (if ldY (σ.1 k) (σ.2.1 k) (kdO k) x then σ.2.1 k + 1 else σ.2.1 k) (if ldY (σ.1 k) (σ.2.1 k) (kdO k) x then σ.2.2.1 k + 1 else σ.2.2.1 k) (σ.2.2.2.1 k)) (hF : FrS h h' (102 + 2 * k)) : RC h' (ldU σ k x) := by
  unfold ldU
  by_cases e : ldY (σ.1 k) (σ.2.1 k) (kdO k) x = true
  · rw [if_pos e]
    rw [if_pos e, if_pos e, if_pos e] at hS
    exact hR.sU hk hS hF
  · rw [if_neg e]
    rw [if_neg e, if_neg e, if_neg e] at hS
    have k9 := hR.sU hk hS hF
    rw [sU_id] at k9
    exact k9
theorem plc {j c : Nat} {p : Int32} (hc : c ≤ 13) (hj : j < 2 ^ 31) (e : p = nI j) (q : ¬ (p < 0 ∨ nI c ≤ p)) : j < c := (nI_ltI hj (by omega)).mp (e ▸ Int32.not_le.mp (fun g => q (Or.inr g)))
def opDrop (σ : CS) (a : Int32) : ARes × CS := onWk a σ (fun k => (rI (bI (σ.2.2.2.2.1 k).1), wU σ k (false, (σ.2.2.2.2.1 k).2)))
def opWalk (σ : CS) (a b y : Int32) : ARes × CS := onWk a σ (fun k => onSh b σ (fun j => if y < 0 ∨ 2 < y then (xA, σ) else if y = 2 ∧ ¬ nI j = 0 then (xA, σ) else (rI (nI (σ.2.1 j)), wU σ k (true, j, y, 0, 0, σ.2.2.1 j, σ.2.2.2.1 j, false))))
def opValueOf (σ : CS) (x : Int32) : ARes × CS := if x < 0 ∨ 100 ≤ x then (xA, σ) else (rI (match fpN (σ.1 6) x 0 (σ.2.1 6) with | none => -1 | some p => taI (σ.1 7) (σ.2.1 7) (nI p)), σ)
def opPlaceOf (σ : CS) (a x y : Int32) : ARes × CS := onRw a σ (fun k => if x < 0 ∨ 100 < x then (xA, σ) else (rI (if y = 0 then opI (fpN (σ.1 k) x 0 (σ.2.1 k)) else opI (lpN (σ.1 k) x (σ.2.1 k))), σ))
def opChange (σ : CS) (a p x : Int32) : ARes × CS := onRw a σ (fun k => if p < 0 ∨ nI (σ.2.1 k) ≤ p then (xI, σ) else if x < 0 ∨ 100 < x then (xA, σ) else (rI (σ.1 k p.toNatClampNeg), sU σ k (up (σ.1 k) p.toNatClampNeg x) (σ.2.1 k) (σ.2.2.1 k) (σ.2.2.2.1 k + 1)))
def opRemove (σ : CS) (a p : Int32) : ARes × CS := onRw a σ (fun k => if p < 0 ∨ nI (σ.2.1 k) ≤ p then (xI, σ) else (rI (σ.1 k p.toNatClampNeg), sU σ k (liN (σ.1 k) p.toNatClampNeg (σ.2.1 k - 1)) (σ.2.1 k - 1) (σ.2.2.1 k + 1) (σ.2.2.2.1 k)))
def opInsert (σ : CS) (a p x : Int32) : ARes × CS := onRw a σ (fun k => if p < 0 ∨ nI (σ.2.1 k) + 1 ≤ p then (xI, σ) else if x < 0 ∨ 100 < x then (xA, σ) else if 12 < nI (σ.2.1 k) + 1 then (xS, σ) else (rI (nI (σ.2.1 k + 1)), sU σ k (laN (σ.1 k) p.toNatClampNeg x (σ.2.1 k)) (σ.2.1 k + 1) (σ.2.2.1 k + 1) (σ.2.2.2.1 k)))
def opTurn (σ : CS) (a : Int32) : ARes × CS := onRw a σ (fun k => (rI (nI (σ.2.1 k)), sU σ k (rvN (σ.1 k) 0 (0 + σ.2.1 k)) (σ.2.1 k) (σ.2.2.1 k) (σ.2.2.2.1 k + 1)))
theorem m_rowAt_x {h : AH} {σ : CS} {d bc bs n : Nat} {x : Int32} (hR : RC h σ) (h1 : 2 ≤ bc) (h2 : 12 ≤ bs) (hd : 1 ≤ d) (q : x < 0 ∨ nI 11 ≤ x) : SM SR0 MX3_rowAt d bc bs [.ref 100, .int x] h n (Det xI h n) := by
  refine sm_of pn_Overwalks rfl (Nat.le_of_ble_eq_true rfl) ?_
  refine sw_aload_n (pc' := 1) rfl dX3_rowAt_0 rfl ?_
  refine sw_iload_n (pc' := 2) rfl dX3_rowAt_1 rfl ?_
  refine sw_V (M' := MX3_shelfAt) (d' := d - 1) (bc' := 1) (bs' := 6) (ci := 4) (as := [_]) dX3_rowAt_2 w_402 ok_X3_shelfAt (m_shelfAt_x hR (Nat.le_refl _) (Nat.le_refl _) q) hR.1 rfl (by omega) (Nat.le_of_ble_eq_true rfl) (by omega) (by omega) (dx_x (swx_out rfl ?_)) (fun v h' n' _ z => dx_k z)
  exact ⟨rfl, rfl, rfl⟩
theorem m_rowAt_y {h : AH} {σ : CS} {d bc bs n : Nat} {k : Nat} (hR : RC h σ) (h1 : 2 ≤ bc) (h2 : 12 ≤ bs) (hd : 1 ≤ d) (hk : k < 11) (q : kP (kdO k) = false) : SM SR0 MX3_rowAt d bc bs [.ref 100, .int (nI k)] h n (Det xI h n) := by
  refine sm_of pn_Overwalks rfl (Nat.le_of_ble_eq_true rfl) ?_
  refine sw_aload_n (pc' := 1) rfl dX3_rowAt_0 rfl ?_
  refine sw_iload_n (pc' := 2) rfl dX3_rowAt_1 rfl ?_
  refine sw_V (M' := MX3_shelfAt) (d' := d - 1) (bc' := 1) (bs' := 6) (ci := 4) (as := [_]) dX3_rowAt_2 w_402 ok_X3_shelfAt (m_shelfAt_k hR (Nat.le_refl _) (Nat.le_refl _) hk) hR.1 rfl (by omega) (Nat.le_of_ble_eq_true rfl) (by omega) (by omega) (fun E h' n' _ z => det_x z) (det_k ?_)
  refine sw_astore_n (pc' := 6) (lv' := [(2, _), (0, _), (1, _)]) rfl dX3_rowAt_5 (by decide +kernel) rfl ?_
  refine sw_aload_n (pc' := 7) rfl dX3_rowAt_6 rfl ?_
  refine sw_getf (ci := 2) (k := 0) (pc' := 10) rfl dX3_rowAt_7 (by decide +kernel) w_81 (hR.sh hk).1 rfl ?_
  refine sw_getf (ci := 7) (k := 0) (pc' := 13) rfl dX3_rowAt_10 (by decide +kernel) w_1497 (hR.kd kdO_r).2 rfl ?_
  refine sw_if_ne (pc' := 16) (tgt := 27) rfl dX3_rowAt_13 (by decide +kernel) (fun c13 => ?_) (fun c13 => ?_)
  · exact absurd (by rw [q]; rfl) c13
  · refine sw_throwW (names := ["java/lang/RuntimeException", "java/lang/Exception"]) rfl dX3_rowAt_16 dX3_rowAt_19 dX3_rowAt_20 dX3_rowAt_23 dX3_rowAt_26 (by decide +kernel) (by decide +kernel) (by decide +kernel) w_361 w_49 (SRm 8 rfl) th_Overwalks_339 (by omega) (by omega) ?_
    exact ⟨rfl, rfl, rfl⟩
theorem m_rowAt_k {h : AH} {σ : CS} {d bc bs n : Nat} {k : Nat} (hR : RC h σ) (h1 : 2 ≤ bc) (h2 : 12 ≤ bs) (hd : 1 ≤ d) (hk : k < 11) (q : ¬ kP (kdO k) = false) : SM SR0 MX3_rowAt d bc bs [.ref 100, .int (nI k)] h n (Det (.inl (some (.ref (102 + 2 * k)))) h n) := by
  refine sm_of pn_Overwalks rfl (Nat.le_of_ble_eq_true rfl) ?_
  refine sw_aload_n (pc' := 1) rfl dX3_rowAt_0 rfl ?_
  refine sw_iload_n (pc' := 2) rfl dX3_rowAt_1 rfl ?_
  refine sw_V (M' := MX3_shelfAt) (d' := d - 1) (bc' := 1) (bs' := 6) (ci := 4) (as := [_]) dX3_rowAt_2 w_402 ok_X3_shelfAt (m_shelfAt_k hR (Nat.le_refl _) (Nat.le_refl _) hk) hR.1 rfl (by omega) (Nat.le_of_ble_eq_true rfl) (by omega) (by omega) (fun E h' n' _ z => det_x z) (det_k ?_)
  refine sw_astore_n (pc' := 6) (lv' := [(2, _), (0, _), (1, _)]) rfl dX3_rowAt_5 (by decide +kernel) rfl ?_
  refine sw_aload_n (pc' := 7) rfl dX3_rowAt_6 rfl ?_
  refine sw_getf (ci := 2) (k := 0) (pc' := 10) rfl dX3_rowAt_7 (by decide +kernel) w_81 (hR.sh hk).1 rfl ?_
  refine sw_getf (ci := 7) (k := 0) (pc' := 13) rfl dX3_rowAt_10 (by decide +kernel) w_1497 (hR.kd kdO_r).2 rfl ?_
  refine sw_if_ne (pc' := 16) (tgt := 27) rfl dX3_rowAt_13 (by decide +kernel) (fun c13 => ?_) (fun c13 => ?_)
  · refine sw_aload_n (pc' := 28) rfl dX3_rowAt_27 rfl ?_
    refine sw_ret (v := some _) ⟨dX3_rowAt_28, _, rfl, Or.inl ⟨_, rfl⟩⟩ ?_
    exact ⟨rfl, rfl, rfl⟩
  · exact absurd (bI_0 c13) q
theorem m_put {h : AH} {σ : CS} {d bc bs n : Nat} {a x : Int32} (hR : RC h σ) (hd : 6 ≤ d) (hb1 : 20 ≤ bc) (hb2 : 200 ≤ bs) : SM SR0 MX3_put d bc bs [.ref 100, .int a, .int x] h n (CP h n (opPut σ a x)) := by
  refine sm_of pn_Overwalks rfl (Nat.le_of_ble_eq_true rfl) ?_
  refine sw_aload_n (pc' := 1) rfl dX3_put_0 rfl ?_
  refine sw_iload_n (pc' := 2) rfl dX3_put_1 rfl ?_
  rcases idxN 11 (by decide +kernel) a with q2 | ⟨k2, hk2, q2⟩
  · refine sw_V (M' := MX3_shelfAt) (d' := d - 1) (bc' := 1) (bs' := 6) (ci := 4) (as := [_]) dX3_put_2 w_402 ok_X3_shelfAt (m_shelfAt_x hR (Nat.le_refl _) (Nat.le_refl _) q2) hR.1 rfl (by omega) (Nat.le_of_ble_eq_true rfl) (by omega) (by omega) (dx_x (swx_out rfl ?_)) (fun v h' n' _ z => dx_k z)
    rw [opPut, onSh_x q2]
    exact ⟨rfl, rfl, hR, FrC.rf⟩
  subst q2
  refine sw_V (M' := MX3_shelfAt) (d' := d - 1) (bc' := 1) (bs' := 6) (ci := 4) (as := [_]) dX3_put_2 w_402 ok_X3_shelfAt (m_shelfAt_k hR (Nat.le_refl _) (Nat.le_refl _) hk2) hR.1 rfl (by omega) (Nat.le_of_ble_eq_true rfl) (by omega) (by omega) (fun E h' n' _ z => det_x z) (det_k ?_)
  refine sw_astore_n (pc' := 6) (lv' := [(3, _), (0, _), (1, _), (2, _)]) rfl dX3_put_5 (by decide +kernel) rfl ?_
  refine sw_iload_n (pc' := 7) rfl dX3_put_6 rfl ?_
  rcases Classical.em (x < 0 ∨ 100 < x) with q7 | q7
  · refine sw_S (M' := MX3_requireThingOrNothing) (d' := d - 1) (bc' := 1) (bs' := 6) (as := [_]) dX3_put_7 w_407 ok_X3_requireThingOrNothing (m_requireThingOrNothing_x (Nat.le_refl _) (Nat.le_refl _) q7) (by omega) (Nat.le_of_ble_eq_true rfl) (by omega) (by omega) (dx_x (swx_out rfl ?_)) (fun v h' n' _ z => dx_k z)
    rw [opPut, onSh_k hk2, if_pos q7]
    exact ⟨rfl, rfl, hR, FrC.rf⟩
  refine sw_S (M' := MX3_requireThingOrNothing) (d' := d - 1) (bc' := 1) (bs' := 6) (as := [_]) dX3_put_7 w_407 ok_X3_requireThingOrNothing (m_requireThingOrNothing_k (Nat.le_refl _) (Nat.le_refl _) q7) (by omega) (Nat.le_of_ble_eq_true rfl) (by omega) (by omega) (fun E h' n' _ z => det_x z) (det_k ?_)
  refine sw_aload_n (pc' := 11) rfl dX3_put_10 rfl ?_
  refine sw_iconst (pc' := 12) (v := 1) rfl dX3_put_11 (by decide +kernel) ?_
  rcases Classical.em (12 < nI (σ.2.1 k2) + 1) with q12 | q12
  · refine sw_S (M' := MX3_requireRoom) (d' := d - 1) (bc' := 1) (bs' := 6) (as := [_, _]) dX3_put_12 w_411 ok_X3_requireRoom (m_requireRoom_x (hR.sh hk2) (Nat.le_refl _) (Nat.le_refl _) q12) (by omega) (Nat.le_of_ble_eq_true rfl) (by omega) (by omega) (dx_x (swx_out rfl ?_)) (fun v h' n' _ z => dx_k z)
    rw [opPut, onSh_k hk2, if_neg q7, if_pos q12]
    exact ⟨rfl, rfl, hR, FrC.rf⟩
  refine sw_S (M' := MX3_requireRoom) (d' := d - 1) (bc' := 1) (bs' := 6) (as := [_, _]) dX3_put_12 w_411 ok_X3_requireRoom (m_requireRoom_k (hR.sh hk2) (Nat.le_refl _) (Nat.le_refl _) q12) (by omega) (Nat.le_of_ble_eq_true rfl) (by omega) (by omega) (fun E h' n' _ z => det_x z) (det_k ?_)
  refine sw_aload_n (pc' := 16) rfl dX3_put_15 rfl ?_
  refine sw_V (M' := MX1_isOfTable) (d' := d - 1) (bc' := 0) (bs' := 0) (ci := 2) (as := []) dX3_put_16 w_430 ok_X1_isOfTable (m_isOfTable (hR.sh hk2) kdO_r) (hR.sh hk2).1 rfl (by omega) (Nat.le_of_ble_eq_true rfl) (by omega) (by omega) (fun E h' n' _ z => det_x z) (det_k ?_)
  refine sw_if_ne (pc' := 22) (tgt := 30) rfl dX3_put_19 (by decide +kernel) (fun c19 => ?_) (fun c19 => ?_)
  · refine sw_aload_n (pc' := 31) rfl dX3_put_30 rfl ?_
    refine sw_V (M' := MX3_refuse) (d' := d - 1) (bc' := 0) (bs' := 0) (ci := 4) (as := []) dX3_put_31 w_439 ok_X3_refuse (m_refuse hR) hR.1 rfl (by omega) (Nat.le_of_ble_eq_true rfl) (by omega) (by omega) (fun E h' n' _ z => cp_x z) (cp_k (fun p31 p31R p31F => ?_))
    refine sw_ret (v := some _) ⟨dX3_put_34, _, rfl, rfl⟩ ?_
    rw [opPut, onSh_k hk2, if_neg q7, if_neg q12, if_pos (Or.inl (of_decide_eq_true (bI_1 c19)))]
    exact ⟨rfl, rfl, p31R, p31F⟩
  · refine sw_aload_n (pc' := 23) rfl dX3_put_22 rfl ?_
    refine sw_iload_n (pc' := 24) rfl dX3_put_23 rfl ?_
    refine sw_V (M' := MX1_takesIn) (d' := d - 1) (bc' := 0) (bs' := 0) (ci := 2) (as := [_]) dX3_put_24 w_435 ok_X1_takesIn (m_takesIn (hR.sh hk2) (hR.kd kdO_r)) (hR.sh hk2).1 rfl (by omega) (Nat.le_of_ble_eq_true rfl) (by omega) (by omega) (fun E h' n' _ z => det_x z) (det_k ?_)
    refine sw_if_ne (pc' := 30) (tgt := 35) rfl dX3_put_27 (by decide +kernel) (fun c27 => ?_) (fun c27 => ?_)
    · refine sw_aload_n (pc' := 36) rfl dX3_put_35 rfl ?_
      refine sw_iload_n (pc' := 37) rfl dX3_put_36 rfl ?_
      have room37 : σ.2.1 k2 < 12 := roomC (hR.sh hk2).2.2.1 q12
      refine sw_V (M' := MX1_layDown) (d' := d - 1) (bc' := 0) (bs' := 0) (ci := 2) (as := [_]) dX3_put_37 w_443 ok_X1_layDown (m_layDown (hR.sh hk2) (hR.kd kdO_r) room37 (by omega)) (hR.sh hk2).1 rfl (by omega) (Nat.le_of_ble_eq_true rfl) (by omega) (by omega) (fun E h' n' _ z => shp_x z) (shp_k (fun p37 p37S p37F => ?_))
      refine sw_S (M' := MX3_oneIf) (d' := d - 1) (bc' := 0) (bs' := 0) (as := [_]) dX3_put_40 w_277 ok_X3_oneIf (m_oneIf) (by omega) (Nat.le_of_ble_eq_true rfl) (by omega) (by omega) (fun E h' n' _ z => det_x z) (det_k ?_)
      refine sw_ret (v := some _) ⟨dX3_put_43, _, rfl, rfl⟩ ?_
      rw [opPut, onSh_k hk2, if_neg q7, if_neg q12, if_neg (fun q => q.elim (of_decide_eq_false (bI_0 c19)) (fun e => Bool.noConfusion ((bI_1 c27).symm.trans e)))]
      exact ⟨rfl, rfl, (hR.ldS hk2 p37S p37F), (p37F.c hk2)⟩
    · refine sw_aload_n (pc' := 31) rfl dX3_put_30 rfl ?_
      refine sw_V (M' := MX3_refuse) (d' := d - 1) (bc' := 0) (bs' := 0) (ci := 4) (as := []) dX3_put_31 w_439 ok_X3_refuse (m_refuse hR) hR.1 rfl (by omega) (Nat.le_of_ble_eq_true rfl) (by omega) (by omega) (fun E h' n' _ z => cp_x z) (cp_k (fun p31 p31R p31F => ?_))
      refine sw_ret (v := some _) ⟨dX3_put_34, _, rfl, rfl⟩ ?_
      rw [opPut, onSh_k hk2, if_neg q7, if_neg q12, if_pos (Or.inr (show tkB k2 x = false from bI_0 c27))]
      exact ⟨rfl, rfl, p31R, p31F⟩
theorem m_skip {h : AH} {σ : CS} {d bc bs n : Nat} {a x : Int32} (hR : RC h σ) (hd : 6 ≤ d) (hb1 : 20 ≤ bc) (hb2 : 200 ≤ bs) : SM SR0 MX3_skip d bc bs [.ref 100, .int a, .int x] h n (CP h n (opSkip σ a x)) := by
  refine sm_of pn_Overwalks rfl (Nat.le_of_ble_eq_true rfl) ?_
  refine sw_aload_n (pc' := 1) rfl dX3_skip_0 rfl ?_
  refine sw_iload_n (pc' := 2) rfl dX3_skip_1 rfl ?_
  rcases idxN 6 (by decide +kernel) a with q2 | ⟨k2, hk2, q2⟩
  · refine sw_V (M' := MX3_walkAt) (d' := d - 1) (bc' := 1) (bs' := 6) (ci := 4) (as := [_]) dX3_skip_2 w_357 ok_X3_walkAt (m_walkAt_x hR (Nat.le_refl _) (Nat.le_refl _) q2) hR.1 rfl (by omega) (Nat.le_of_ble_eq_true rfl) (by omega) (by omega) (dx_x (swx_out rfl ?_)) (fun v h' n' _ z => dx_k z)
    rw [opSkip, onWk_x q2]
    exact ⟨rfl, rfl, hR, FrC.rf⟩
  subst q2
  refine sw_V (M' := MX3_walkAt) (d' := d - 1) (bc' := 1) (bs' := 6) (ci := 4) (as := [_]) dX3_skip_2 w_357 ok_X3_walkAt (m_walkAt_k hR (Nat.le_refl _) (Nat.le_refl _) hk2) hR.1 rfl (by omega) (Nat.le_of_ble_eq_true rfl) (by omega) (by omega) (fun E h' n' _ z => det_x z) (det_k ?_)
  refine sw_astore_n (pc' := 6) (lv' := [(3, _), (0, _), (1, _), (2, _)]) rfl dX3_skip_5 (by decide +kernel) rfl ?_
  refine sw_iload_n (pc' := 7) rfl dX3_skip_6 rfl ?_
  rcases Classical.em (x < 0 ∨ 12 < x) with q7 | q7
  · refine sw_S (M' := MX3_requireUpToRoom) (d' := d - 1) (bc' := 1) (bs' := 6) (as := [_]) dX3_skip_7 w_620 ok_X3_requireUpToRoom (m_requireUpToRoom_x (Nat.le_refl _) (Nat.le_refl _) q7) (by omega) (Nat.le_of_ble_eq_true rfl) (by omega) (by omega) (dx_x (swx_out rfl ?_)) (fun v h' n' _ z => dx_k z)
    rw [opSkip, onWk_k hk2, if_pos q7]
    exact ⟨rfl, rfl, hR, FrC.rf⟩
  refine sw_S (M' := MX3_requireUpToRoom) (d' := d - 1) (bc' := 1) (bs' := 6) (as := [_]) dX3_skip_7 w_620 ok_X3_requireUpToRoom (m_requireUpToRoom_k (Nat.le_refl _) (Nat.le_refl _) q7) (by omega) (Nat.le_of_ble_eq_true rfl) (by omega) (by omega) (fun E h' n' _ z => det_x z) (det_k ?_)
  refine sw_aload_n (pc' := 11) rfl dX3_skip_10 rfl ?_
  rcases Classical.em ((σ.2.2.2.2.1 k2).1 = false) with q11 | q11
  · refine sw_S (M' := MX3_requireMade) (d' := d - 1) (bc' := 1) (bs' := 6) (as := [_]) dX3_skip_11 w_640 ok_X3_requireMade (m_requireMade_x (hR.wk hk2).2 (Nat.le_refl _) (Nat.le_refl _) q11) (by omega) (Nat.le_of_ble_eq_true rfl) (by omega) (by omega) (dx_x (swx_out rfl ?_)) (fun v h' n' _ z => dx_k z)
    rw [opSkip, onWk_k hk2, if_neg q7, if_pos q11]
    exact ⟨rfl, rfl, hR, FrC.rf⟩
  refine sw_S (M' := MX3_requireMade) (d' := d - 1) (bc' := 1) (bs' := 6) (as := [_]) dX3_skip_11 w_640 ok_X3_requireMade (m_requireMade_k (hR.wk hk2).2 (Nat.le_refl _) (Nat.le_refl _) q11) (by omega) (Nat.le_of_ble_eq_true rfl) (by omega) (by omega) (fun E h' n' _ z => det_x z) (det_k ?_)
  refine sw_aload_n (pc' := 15) rfl dX3_skip_14 rfl ?_
  refine sw_V (M' := MX2_isStale) (d' := d - 1) (bc' := 0) (bs' := 0) (ci := 3) (as := []) dX3_skip_15 w_284 ok_X2_isStale (m_isStale (hR.wk hk2).2 (hR.sh (hR.wk hk2).1)) (hR.wk hk2).2.1 rfl (by omega) (Nat.le_of_ble_eq_true rfl) (by omega) (by omega) (fun E h' n' _ z => det_x z) (det_k ?_)
  refine sw_if_eq (pc' := 21) (tgt := 26) rfl dX3_skip_18 (by decide +kernel) (fun c18 => ?_) (fun c18 => ?_)
  · obtain ⟨m, hm, rfl⟩ := nI_of (fun e => q7 (Or.inl e))
    have hm2 : m ≤ 12 := (nI_leI (b := 12) hm (by decide +kernel)).mp (Int32.not_lt.mp (fun e => q7 (Or.inr e)))
    refine sw_aload_n (pc' := 27) rfl dX3_skip_26 rfl ?_
    refine sw_iload_n (pc' := 28) rfl dX3_skip_27 rfl ?_
    have ov28 := (hR.wk hk2).1
    refine sw_V (M' := MX2_giveUpTo) (d' := d - 1) (bc' := 0) (bs' := 0) (ci := 3) (as := [_]) dX3_skip_28 w_221 ok_X2_giveUpTo (m_giveUpTo (hR.wk hk2).2 (hR.sh (hR.wk hk2).1) (by omega) (by omega) (by omega)) (hR.wk hk2).2.1 rfl (by omega) (Nat.le_of_ble_eq_true rfl) (by omega) (by omega) (fun E h' n' _ z => wkp_x z) (wkp_k (fun p28 p28W p28F => ?_))
    refine sw_ret (v := some _) ⟨dX3_skip_31, _, rfl, rfl⟩ ?_
    rw [opSkip, onWk_k hk2, if_neg q7, if_neg q11, if_neg (by rw [show wSt σ k2 = false from bI_0 c18]; decide), nI_clamp (by omega)]
    exact ⟨rfl, rfl, (hR.wU hk2 ⟨(hR.wk hk2).1, p28W⟩ p28F), (p28F.c (by omega) (by omega))⟩
  · refine sw_aload_n (pc' := 22) rfl dX3_skip_21 rfl ?_
    refine sw_V (M' := MX3_refuse) (d' := d - 1) (bc' := 0) (bs' := 0) (ci := 4) (as := []) dX3_skip_22 w_439 ok_X3_refuse (m_refuse hR) hR.1 rfl (by omega) (Nat.le_of_ble_eq_true rfl) (by omega) (by omega) (fun E h' n' _ z => cp_x z) (cp_k (fun p22 p22R p22F => ?_))
    refine sw_ret (v := some _) ⟨dX3_skip_25, _, rfl, rfl⟩ ?_
    rw [opSkip, onWk_k hk2, if_neg q7, if_neg q11, if_pos (bI_1 c18 : wSt σ k2 = true)]
    exact ⟨rfl, rfl, p22R, p22F⟩
theorem m_valueOf {h : AH} {σ : CS} {d bc bs n : Nat} {x : Int32} (hR : RC h σ) (hd : 6 ≤ d) (hb1 : 20 ≤ bc) (hb2 : 200 ≤ bs) : SM SR0 MX3_valueOf d bc bs [.ref 100, .int x] h n (CP h n (opValueOf σ x)) := by
  refine sm_of pn_Overwalks rfl (Nat.le_of_ble_eq_true rfl) ?_
  refine sw_iload_n (pc' := 1) rfl dX3_valueOf_0 rfl ?_
  rcases Classical.em (x < 0 ∨ 100 ≤ x) with q1 | q1
  · refine sw_S (M' := MX3_requireThing) (d' := d - 1) (bc' := 1) (bs' := 6) (as := [_]) dX3_valueOf_1 w_508 ok_X3_requireThing (m_requireThing_x (Nat.le_refl _) (Nat.le_refl _) q1) (by omega) (Nat.le_of_ble_eq_true rfl) (by omega) (by omega) (dx_x (swx_out rfl ?_)) (fun v h' n' _ z => dx_k z)
    rw [opValueOf, if_pos q1]
    exact ⟨rfl, rfl, hR, FrC.rf⟩
  refine sw_S (M' := MX3_requireThing) (d' := d - 1) (bc' := 1) (bs' := 6) (as := [_]) dX3_valueOf_1 w_508 ok_X3_requireThing (m_requireThing_k (Nat.le_refl _) (Nat.le_refl _) q1) (by omega) (Nat.le_of_ble_eq_true rfl) (by omega) (by omega) (fun E h' n' _ z => det_x z) (det_k ?_)
  obtain ⟨g, ga, gb⟩ := hR.2.1
  refine sw_aload_n (pc' := 5) rfl dX3_valueOf_4 rfl ?_
  refine sw_getf (ci := 4) (k := 0) (pc' := 8) rfl dX3_valueOf_5 (by decide +kernel) w_150 hR.1 rfl ?_
  refine sw_bipush (pc' := 10) (v := 6) rfl dX3_valueOf_8 (by decide +kernel) ?_
  refine sw_aald (pc' := 11) rfl dX3_valueOf_10 ga (by decide +kernel) (by decide +kernel) (j := 6) rfl (by decide +kernel) (by decide +kernel) (gb 6 (by decide +kernel)) ?_
  refine sw_iload_n (pc' := 12) rfl dX3_valueOf_11 rfl ?_
  refine sw_V (M' := MX1_firstPlace) (d' := d - 1) (bc' := 0) (bs' := 0) (ci := 2) (as := [_]) dX3_valueOf_12 w_481 ok_X1_firstPlace (m_firstPlace (hR.sh (k := 6) (by decide +kernel))) (hR.sh (k := 6) (by decide +kernel)).1 rfl (by omega) (Nat.le_of_ble_eq_true rfl) (by omega) (by omega) (fun E h' n' _ z => det_x z) (det_k ?_)
  refine sw_istore_n (pc' := 16) (lv' := [(2, _), (0, _), (1, _)]) rfl dX3_valueOf_15 (by decide +kernel) rfl ?_
  refine sw_iload_n (pc' := 17) rfl dX3_valueOf_16 rfl ?_
  refine sw_iconst (pc' := 18) (v := (-1)) rfl dX3_valueOf_17 (by decide +kernel) ?_
  refine sw_icmp_ne (pc' := 21) (tgt := 25) rfl dX3_valueOf_18 (by decide +kernel) (fun c18 => ?_) (fun c18 => ?_)
  · refine sw_aload_n (pc' := 26) rfl dX3_valueOf_25 rfl ?_
    refine sw_getf (ci := 4) (k := 0) (pc' := 29) rfl dX3_valueOf_26 (by decide +kernel) w_150 hR.1 rfl ?_
    refine sw_bipush (pc' := 31) (v := 7) rfl dX3_valueOf_29 (by decide +kernel) ?_
    refine sw_aald (pc' := 32) rfl dX3_valueOf_31 ga (by decide +kernel) (by decide +kernel) (j := 7) rfl (by decide +kernel) (by decide +kernel) (gb 7 (by decide +kernel)) ?_
    refine sw_iload_n (pc' := 33) rfl dX3_valueOf_32 rfl ?_
    refine sw_V (M' := MX1_thingAt) (d' := d - 1) (bc' := 0) (bs' := 0) (ci := 2) (as := [_]) dX3_valueOf_33 w_230 ok_X1_thingAt (m_thingAt (hR.sh (k := 7) (by decide +kernel))) (hR.sh (k := 7) (by decide +kernel)).1 rfl (by omega) (Nat.le_of_ble_eq_true rfl) (by omega) (by omega) (fun E h' n' _ z => det_x z) (det_k ?_)
    refine sw_ret (v := some _) ⟨dX3_valueOf_36, _, rfl, rfl⟩ ?_
    have e1 : ∃ p, fpN (σ.1 6) x 0 (σ.2.1 6) = some p := by
      cases e : fpN (σ.1 6) x 0 (σ.2.1 6) with
      | none => rw [e] at c18; exact absurd rfl c18
      | some p => exact ⟨p, rfl⟩
    obtain ⟨p, e1⟩ := e1
    rw [show opI (fpN (σ.1 6) x 0 (σ.2.1 6)) = nI p from by rw [e1]; rfl]
    rw [opValueOf, if_neg q1, e1]
    exact ⟨rfl, rfl, hR, FrC.rf⟩
  · refine sw_iconst (pc' := 22) (v := (-1)) rfl dX3_valueOf_21 (by decide +kernel) ?_
    refine sw_goto (tgt := 36) dX3_valueOf_22 (by decide +kernel) ?_
    refine sw_ret (v := some _) ⟨dX3_valueOf_36, _, rfl, rfl⟩ ?_
    have hc6 := (hR.sh (k := 6) (by decide +kernel)).2.2.1
    have e1 := opI_n (o := fpN (σ.1 6) x 0 (σ.2.1 6)) (fun j e => by have := fpN_at e; omega) c18
    rw [opValueOf, if_neg q1, e1]
    exact ⟨rfl, rfl, hR, FrC.rf⟩
theorem m_placeOf {h : AH} {σ : CS} {d bc bs n : Nat} {a x y : Int32} (hR : RC h σ) (hd : 6 ≤ d) (hb1 : 20 ≤ bc) (hb2 : 200 ≤ bs) : SM SR0 MX3_placeOf d bc bs [.ref 100, .int a, .int x, .int y] h n (CP h n (opPlaceOf σ a x y)) := by
  refine sm_of pn_Overwalks rfl (Nat.le_of_ble_eq_true rfl) ?_
  refine sw_aload_n (pc' := 1) rfl dX3_placeOf_0 rfl ?_
  refine sw_iload_n (pc' := 2) rfl dX3_placeOf_1 rfl ?_
  rcases idxN 11 (by decide +kernel) a with q2 | ⟨k2, hk2, q2⟩
  · refine sw_V (M' := MX3_rowAt) (d' := d - 1) (bc' := 2) (bs' := 12) (ci := 4) (as := [_]) dX3_placeOf_2 w_541 ok_X3_rowAt (m_rowAt_x hR (Nat.le_refl _) (Nat.le_refl _) (by omega) q2) hR.1 rfl (by omega) (Nat.le_of_ble_eq_true rfl) (by omega) (by omega) (dx_x (swx_out rfl ?_)) (fun v h' n' _ z => dx_k z)
    rw [opPlaceOf, onRw_x q2]
    exact ⟨rfl, rfl, hR, FrC.rf⟩
  subst q2
  rcases Classical.em (kP (kdO k2) = false) with q2 | q2
  · refine sw_V (M' := MX3_rowAt) (d' := d - 1) (bc' := 2) (bs' := 12) (ci := 4) (as := [_]) dX3_placeOf_2 w_541 ok_X3_rowAt (m_rowAt_y hR (Nat.le_refl _) (Nat.le_refl _) (by omega) hk2 q2) hR.1 rfl (by omega) (Nat.le_of_ble_eq_true rfl) (by omega) (by omega) (dx_x (swx_out rfl ?_)) (fun v h' n' _ z => dx_k z)
    rw [opPlaceOf, onRw_y hk2 q2]
    exact ⟨rfl, rfl, hR, FrC.rf⟩
  refine sw_V (M' := MX3_rowAt) (d' := d - 1) (bc' := 2) (bs' := 12) (ci := 4) (as := [_]) dX3_placeOf_2 w_541 ok_X3_rowAt (m_rowAt_k hR (Nat.le_refl _) (Nat.le_refl _) (by omega) hk2 q2) hR.1 rfl (by omega) (Nat.le_of_ble_eq_true rfl) (by omega) (by omega) (fun E h' n' _ z => det_x z) (det_k ?_)
  refine sw_astore (pc' := 7) (lv' := [(4, _), (0, _), (1, _), (2, _), (3, _)]) rfl dX3_placeOf_5 (by decide +kernel) rfl ?_
  refine sw_iload_n (pc' := 8) rfl dX3_placeOf_7 rfl ?_
  rcases Classical.em (x < 0 ∨ 100 < x) with q8 | q8
  · refine sw_S (M' := MX3_requireThingOrNothing) (d' := d - 1) (bc' := 1) (bs' := 6) (as := [_]) dX3_placeOf_8 w_407 ok_X3_requireThingOrNothing (m_requireThingOrNothing_x (Nat.le_refl _) (Nat.le_refl _) q8) (by omega) (Nat.le_of_ble_eq_true rfl) (by omega) (by omega) (dx_x (swx_out rfl ?_)) (fun v h' n' _ z => dx_k z)
    rw [opPlaceOf, onRw_k hk2 q2, if_pos q8]
    exact ⟨rfl, rfl, hR, FrC.rf⟩
  refine sw_S (M' := MX3_requireThingOrNothing) (d' := d - 1) (bc' := 1) (bs' := 6) (as := [_]) dX3_placeOf_8 w_407 ok_X3_requireThingOrNothing (m_requireThingOrNothing_k (Nat.le_refl _) (Nat.le_refl _) q8) (by omega) (Nat.le_of_ble_eq_true rfl) (by omega) (by omega) (fun E h' n' _ z => det_x z) (det_k ?_)
  refine sw_iload_n (pc' := 12) rfl dX3_placeOf_11 rfl ?_
  refine sw_if_eq (pc' := 15) (tgt := 24) rfl dX3_placeOf_12 (by decide +kernel) (fun c12 => ?_) (fun c12 => ?_)
  · refine sw_aload (pc' := 26) rfl dX3_placeOf_24 rfl ?_
    refine sw_iload_n (pc' := 27) rfl dX3_placeOf_26 rfl ?_
    refine sw_V (M' := MX1_firstPlace) (d' := d - 1) (bc' := 0) (bs' := 0) (ci := 2) (as := [_]) dX3_placeOf_27 w_481 ok_X1_firstPlace (m_firstPlace (hR.sh hk2)) (hR.sh hk2).1 rfl (by omega) (Nat.le_of_ble_eq_true rfl) (by omega) (by omega) (fun E h' n' _ z => det_x z) (det_k ?_)
    refine sw_ret (v := some _) ⟨dX3_placeOf_30, _, rfl, rfl⟩ ?_
    rw [opPlaceOf, onRw_k hk2 q2, if_neg q8, if_pos c12]
    exact ⟨rfl, rfl, hR, FrC.rf⟩
  · refine sw_aload (pc' := 17) rfl dX3_placeOf_15 rfl ?_
    refine sw_iload_n (pc' := 18) rfl dX3_placeOf_17 rfl ?_
    refine sw_V (M' := MX1_lastPlace) (d' := d - 1) (bc' := 0) (bs' := 0) (ci := 2) (as := [_]) dX3_placeOf_18 w_1049 ok_X1_lastPlace (m_lastPlace (hR.sh hk2)) (hR.sh hk2).1 rfl (by omega) (Nat.le_of_ble_eq_true rfl) (by omega) (by omega) (fun E h' n' _ z => det_x z) (det_k ?_)
    refine sw_goto (tgt := 30) dX3_placeOf_21 (by decide +kernel) ?_
    refine sw_ret (v := some _) ⟨dX3_placeOf_30, _, rfl, rfl⟩ ?_
    rw [opPlaceOf, onRw_k hk2 q2, if_neg q8, if_neg c12]
    exact ⟨rfl, rfl, hR, FrC.rf⟩
theorem m_change {h : AH} {σ : CS} {d bc bs n : Nat} {a p x : Int32} (hR : RC h σ) (hd : 6 ≤ d) (hb1 : 20 ≤ bc) (hb2 : 200 ≤ bs) : SM SR0 MX3_change d bc bs [.ref 100, .int a, .int p, .int x] h n (CP h n (opChange σ a p x)) := by
  refine sm_of pn_Overwalks rfl (Nat.le_of_ble_eq_true rfl) ?_
  refine sw_aload_n (pc' := 1) rfl dX3_change_0 rfl ?_
  refine sw_iload_n (pc' := 2) rfl dX3_change_1 rfl ?_
  rcases idxN 11 (by decide +kernel) a with q2 | ⟨k2, hk2, q2⟩
  · refine sw_V (M' := MX3_rowAt) (d' := d - 1) (bc' := 2) (bs' := 12) (ci := 4) (as := [_]) dX3_change_2 w_541 ok_X3_rowAt (m_rowAt_x hR (Nat.le_refl _) (Nat.le_refl _) (by omega) q2) hR.1 rfl (by omega) (Nat.le_of_ble_eq_true rfl) (by omega) (by omega) (dx_x (swx_out rfl ?_)) (fun v h' n' _ z => dx_k z)
    rw [opChange, onRw_x q2]
    exact ⟨rfl, rfl, hR, FrC.rf⟩
  subst q2
  rcases Classical.em (kP (kdO k2) = false) with q2 | q2
  · refine sw_V (M' := MX3_rowAt) (d' := d - 1) (bc' := 2) (bs' := 12) (ci := 4) (as := [_]) dX3_change_2 w_541 ok_X3_rowAt (m_rowAt_y hR (Nat.le_refl _) (Nat.le_refl _) (by omega) hk2 q2) hR.1 rfl (by omega) (Nat.le_of_ble_eq_true rfl) (by omega) (by omega) (dx_x (swx_out rfl ?_)) (fun v h' n' _ z => dx_k z)
    rw [opChange, onRw_y hk2 q2]
    exact ⟨rfl, rfl, hR, FrC.rf⟩
  refine sw_V (M' := MX3_rowAt) (d' := d - 1) (bc' := 2) (bs' := 12) (ci := 4) (as := [_]) dX3_change_2 w_541 ok_X3_rowAt (m_rowAt_k hR (Nat.le_refl _) (Nat.le_refl _) (by omega) hk2 q2) hR.1 rfl (by omega) (Nat.le_of_ble_eq_true rfl) (by omega) (by omega) (fun E h' n' _ z => det_x z) (det_k ?_)
  refine sw_astore (pc' := 7) (lv' := [(4, _), (0, _), (1, _), (2, _), (3, _)]) rfl dX3_change_5 (by decide +kernel) rfl ?_
  refine sw_iload_n (pc' := 8) rfl dX3_change_7 rfl ?_
  refine sw_aload (pc' := 10) rfl dX3_change_8 rfl ?_
  refine sw_getf (ci := 2) (k := 2) (pc' := 13) rfl dX3_change_10 (by decide +kernel) w_84 (hR.sh hk2).1 rfl ?_
  rcases Classical.em (p < 0 ∨ nI (σ.2.1 k2) ≤ p) with q13 | q13
  · refine sw_S (M' := MX3_requirePlace) (d' := d - 1) (bc' := 1) (bs' := 6) (as := [_, _]) dX3_change_13 w_546 ok_X3_requirePlace (m_requirePlace_x (Nat.le_refl _) (Nat.le_refl _) q13) (by omega) (Nat.le_of_ble_eq_true rfl) (by omega) (by omega) (dx_x (swx_out rfl ?_)) (fun v h' n' _ z => dx_k z)
    rw [opChange, onRw_k hk2 q2, if_pos q13]
    exact ⟨rfl, rfl, hR, FrC.rf⟩
  refine sw_S (M' := MX3_requirePlace) (d' := d - 1) (bc' := 1) (bs' := 6) (as := [_, _]) dX3_change_13 w_546 ok_X3_requirePlace (m_requirePlace_k (Nat.le_refl _) (Nat.le_refl _) q13) (by omega) (Nat.le_of_ble_eq_true rfl) (by omega) (by omega) (fun E h' n' _ z => det_x z) (det_k ?_)
  refine sw_iload_n (pc' := 17) rfl dX3_change_16 rfl ?_
  rcases Classical.em (x < 0 ∨ 100 < x) with q17 | q17
  · refine sw_S (M' := MX3_requireThingOrNothing) (d' := d - 1) (bc' := 1) (bs' := 6) (as := [_]) dX3_change_17 w_407 ok_X3_requireThingOrNothing (m_requireThingOrNothing_x (Nat.le_refl _) (Nat.le_refl _) q17) (by omega) (Nat.le_of_ble_eq_true rfl) (by omega) (by omega) (dx_x (swx_out rfl ?_)) (fun v h' n' _ z => dx_k z)
    rw [opChange, onRw_k hk2 q2, if_neg q13, if_pos q17]
    exact ⟨rfl, rfl, hR, FrC.rf⟩
  refine sw_S (M' := MX3_requireThingOrNothing) (d' := d - 1) (bc' := 1) (bs' := 6) (as := [_]) dX3_change_17 w_407 ok_X3_requireThingOrNothing (m_requireThingOrNothing_k (Nat.le_refl _) (Nat.le_refl _) q17) (by omega) (Nat.le_of_ble_eq_true rfl) (by omega) (by omega) (fun E h' n' _ z => det_x z) (det_k ?_)
  obtain ⟨j, hj, ej⟩ := nI_of (fun e => q13 (Or.inl e))
  have hc := (hR.sh hk2).2.2.1
  have hjc : j < σ.2.1 k2 := plc (by omega) hj ej q13
  subst ej
  refine sw_aload (pc' := 22) rfl dX3_change_20 rfl ?_
  refine sw_dup (pc' := 23) rfl dX3_change_22 rfl ?_
  refine sw_getf (ci := 2) (k := 4) (pc' := 26) rfl dX3_change_23 (by decide +kernel) w_89 (hR.sh hk2).1 rfl ?_
  refine sw_iconst (pc' := 27) (v := 1) rfl dX3_change_26 (by decide +kernel) ?_
  refine sw_iadd (pc' := 28) rfl dX3_change_27 ?_
  refine sw_putf (ci := 2) (k := 4) (pc' := 31) rfl dX3_change_28 (by decide +kernel) (by decide +kernel) w_89 rfl (hR.sh hk2).1 (hR.sh hk2).2.2.2 (Nat.le_of_ble_eq_true rfl) rfl rfl ?_
  refine sw_nm (fun g1 eg1 => ?_)
  have zk2 := (congrFun eg1 _).trans (up_s (h := h) (i := (102 + 2 * k2)))
  have zk3 := ((congrFun eg1 100).trans (up_n (h := h) (by omega))).trans hR.1
  have zk4 := ((congrFun eg1 ((102 + 2 * k2) + 1)).trans (up_n (h := h) (by omega))).trans (hR.sh hk2).2.1
  refine sw_aload (pc' := 33) rfl dX3_change_31 rfl ?_
  refine sw_iload_n (pc' := 34) rfl dX3_change_33 rfl ?_
  refine sw_iload_n (pc' := 35) rfl dX3_change_34 rfl ?_
  refine sw_V (M' := MX1_exchange) (d' := d - 1) (bc' := 0) (bs' := 0) (ci := 2) (as := [_, _]) dX3_change_35 w_512 ok_X1_exchange (m_exchange (j := j) (show ShF g1 (102 + 2 * k2) (kdO k2) (σ.1 k2) (σ.2.1 k2) (σ.2.2.1 k2) (σ.2.2.2.1 k2 + 1) from ⟨zk2, zk4, (hR.sh hk2).2.2⟩) hjc) (show ShF g1 (102 + 2 * k2) (kdO k2) (σ.1 k2) (σ.2.1 k2) (σ.2.2.1 k2) (σ.2.2.2.1 k2 + 1) from ⟨zk2, zk4, (hR.sh hk2).2.2⟩).1 rfl (by omega) (Nat.le_of_ble_eq_true rfl) (by omega) (by omega) (fun E h' n' _ z => shp_x z) (shp_k (fun p35 p35S p35F => ?_))
  refine sw_ret (v := some _) ⟨dX3_change_38, _, rfl, rfl⟩ ?_
  rw [opChange, onRw_k hk2 q2, if_neg q13, if_neg q17, nI_clamp hj]
  exact ⟨rfl, rfl, (hR.sU hk2 p35S ((show FrS h g1 (102 + 2 * k2) from (fun i h1 h2 => (congrFun eg1 i).trans ((up_n h1).trans (rfl)))).tr p35F)), (((show FrS h g1 (102 + 2 * k2) from (fun i h1 h2 => (congrFun eg1 i).trans ((up_n h1).trans (rfl)))).tr p35F).c hk2)⟩
theorem m_turn {h : AH} {σ : CS} {d bc bs n : Nat} {a : Int32} (hR : RC h σ) (hd : 6 ≤ d) (hb1 : 20 ≤ bc) (hb2 : 200 ≤ bs) : SM SR0 MX3_turn d bc bs [.ref 100, .int a] h n (CP h n (opTurn σ a)) := by
  refine sm_of pn_Overwalks rfl (Nat.le_of_ble_eq_true rfl) ?_
  refine sw_aload_n (pc' := 1) rfl dX3_turn_0 rfl ?_
  refine sw_iload_n (pc' := 2) rfl dX3_turn_1 rfl ?_
  rcases idxN 11 (by decide +kernel) a with q2 | ⟨k2, hk2, q2⟩
  · refine sw_V (M' := MX3_rowAt) (d' := d - 1) (bc' := 2) (bs' := 12) (ci := 4) (as := [_]) dX3_turn_2 w_541 ok_X3_rowAt (m_rowAt_x hR (Nat.le_refl _) (Nat.le_refl _) (by omega) q2) hR.1 rfl (by omega) (Nat.le_of_ble_eq_true rfl) (by omega) (by omega) (dx_x (swx_out rfl ?_)) (fun v h' n' _ z => dx_k z)
    rw [opTurn, onRw_x q2]
    exact ⟨rfl, rfl, hR, FrC.rf⟩
  subst q2
  rcases Classical.em (kP (kdO k2) = false) with q2 | q2
  · refine sw_V (M' := MX3_rowAt) (d' := d - 1) (bc' := 2) (bs' := 12) (ci := 4) (as := [_]) dX3_turn_2 w_541 ok_X3_rowAt (m_rowAt_y hR (Nat.le_refl _) (Nat.le_refl _) (by omega) hk2 q2) hR.1 rfl (by omega) (Nat.le_of_ble_eq_true rfl) (by omega) (by omega) (dx_x (swx_out rfl ?_)) (fun v h' n' _ z => dx_k z)
    rw [opTurn, onRw_y hk2 q2]
    exact ⟨rfl, rfl, hR, FrC.rf⟩
  refine sw_V (M' := MX3_rowAt) (d' := d - 1) (bc' := 2) (bs' := 12) (ci := 4) (as := [_]) dX3_turn_2 w_541 ok_X3_rowAt (m_rowAt_k hR (Nat.le_refl _) (Nat.le_refl _) (by omega) hk2 q2) hR.1 rfl (by omega) (Nat.le_of_ble_eq_true rfl) (by omega) (by omega) (fun E h' n' _ z => det_x z) (det_k ?_)
  refine sw_astore_n (pc' := 6) (lv' := [(2, _), (0, _), (1, _)]) rfl dX3_turn_5 (by decide +kernel) rfl ?_
  refine sw_aload_n (pc' := 7) rfl dX3_turn_6 rfl ?_
  refine sw_dup (pc' := 8) rfl dX3_turn_7 rfl ?_
  refine sw_getf (ci := 2) (k := 4) (pc' := 11) rfl dX3_turn_8 (by decide +kernel) w_89 (hR.sh hk2).1 rfl ?_
  refine sw_iconst (pc' := 12) (v := 1) rfl dX3_turn_11 (by decide +kernel) ?_
  refine sw_iadd (pc' := 13) rfl dX3_turn_12 ?_
  refine sw_putf (ci := 2) (k := 4) (pc' := 16) rfl dX3_turn_13 (by decide +kernel) (by decide +kernel) w_89 rfl (hR.sh hk2).1 (hR.sh hk2).2.2.2 (Nat.le_of_ble_eq_true rfl) rfl rfl ?_
  refine sw_nm (fun g1 eg1 => ?_)
  have zk2 := (congrFun eg1 _).trans (up_s (h := h) (i := (102 + 2 * k2)))
  have zk3 := ((congrFun eg1 100).trans (up_n (h := h) (by omega))).trans hR.1
  have zk4 := ((congrFun eg1 ((102 + 2 * k2) + 1)).trans (up_n (h := h) (by omega))).trans (hR.sh hk2).2.1
  refine sw_aload_n (pc' := 17) rfl dX3_turn_16 rfl ?_
  refine sw_iconst (pc' := 18) (v := 0) rfl dX3_turn_17 (by decide +kernel) ?_
  refine sw_aload_n (pc' := 19) rfl dX3_turn_18 rfl ?_
  refine sw_getf (ci := 2) (k := 2) (pc' := 22) rfl dX3_turn_19 (by decide +kernel) w_84 zk2 rfl ?_
  refine sw_V (M' := MX1_reverse) (d' := d - 1) (bc' := 0) (bs' := 0) (ci := 2) (as := [_, _]) dX3_turn_22 w_571 ok_X1_reverse (m_reverse (a := 0) (m := σ.2.1 k2) (show ShF g1 (102 + 2 * k2) (kdO k2) (σ.1 k2) (σ.2.1 k2) (σ.2.2.1 k2) (σ.2.2.2.1 k2 + 1) from ⟨zk2, zk4, (hR.sh hk2).2.2⟩) (by omega) (by omega) rfl (by rw [Nat.zero_add])) (show ShF g1 (102 + 2 * k2) (kdO k2) (σ.1 k2) (σ.2.1 k2) (σ.2.2.1 k2) (σ.2.2.2.1 k2 + 1) from ⟨zk2, zk4, (hR.sh hk2).2.2⟩).1 rfl (by omega) (Nat.le_of_ble_eq_true rfl) (by omega) (by omega) (fun E h' n' _ z => shp_x z) (shp_k (fun p22 p22S p22F => ?_))
  refine sw_aload_n (pc' := 26) rfl dX3_turn_25 rfl ?_
  refine sw_getf (ci := 2) (k := 2) (pc' := 29) rfl dX3_turn_26 (by decide +kernel) w_84 p22S.1 rfl ?_
  refine sw_ret (v := some _) ⟨dX3_turn_29, _, rfl, rfl⟩ ?_
  rw [opTurn, onRw_k hk2 q2]
  exact ⟨rfl, rfl, (hR.sU hk2 p22S ((show FrS h g1 (102 + 2 * k2) from (fun i h1 h2 => (congrFun eg1 i).trans ((up_n h1).trans (rfl)))).tr p22F)), (((show FrS h g1 (102 + 2 * k2) from (fun i h1 h2 => (congrFun eg1 i).trans ((up_n h1).trans (rfl)))).tr p22F).c hk2)⟩
theorem m_insert {h : AH} {σ : CS} {d bc bs n : Nat} {a p x : Int32} (hR : RC h σ) (hd : 6 ≤ d) (hb1 : 20 ≤ bc) (hb2 : 200 ≤ bs) : SM SR0 MX3_insert d bc bs [.ref 100, .int a, .int p, .int x] h n (CP h n (opInsert σ a p x)) := by
  refine sm_of pn_Overwalks rfl (Nat.le_of_ble_eq_true rfl) ?_
  refine sw_aload_n (pc' := 1) rfl dX3_insert_0 rfl ?_
  refine sw_iload_n (pc' := 2) rfl dX3_insert_1 rfl ?_
  rcases idxN 11 (by decide +kernel) a with q2 | ⟨k2, hk2, q2⟩
  · refine sw_V (M' := MX3_rowAt) (d' := d - 1) (bc' := 2) (bs' := 12) (ci := 4) (as := [_]) dX3_insert_2 w_541 ok_X3_rowAt (m_rowAt_x hR (Nat.le_refl _) (Nat.le_refl _) (by omega) q2) hR.1 rfl (by omega) (Nat.le_of_ble_eq_true rfl) (by omega) (by omega) (dx_x (swx_out rfl ?_)) (fun v h' n' _ z => dx_k z)
    rw [opInsert, onRw_x q2]
    exact ⟨rfl, rfl, hR, FrC.rf⟩
  subst q2
  rcases Classical.em (kP (kdO k2) = false) with q2 | q2
  · refine sw_V (M' := MX3_rowAt) (d' := d - 1) (bc' := 2) (bs' := 12) (ci := 4) (as := [_]) dX3_insert_2 w_541 ok_X3_rowAt (m_rowAt_y hR (Nat.le_refl _) (Nat.le_refl _) (by omega) hk2 q2) hR.1 rfl (by omega) (Nat.le_of_ble_eq_true rfl) (by omega) (by omega) (dx_x (swx_out rfl ?_)) (fun v h' n' _ z => dx_k z)
    rw [opInsert, onRw_y hk2 q2]
    exact ⟨rfl, rfl, hR, FrC.rf⟩
  refine sw_V (M' := MX3_rowAt) (d' := d - 1) (bc' := 2) (bs' := 12) (ci := 4) (as := [_]) dX3_insert_2 w_541 ok_X3_rowAt (m_rowAt_k hR (Nat.le_refl _) (Nat.le_refl _) (by omega) hk2 q2) hR.1 rfl (by omega) (Nat.le_of_ble_eq_true rfl) (by omega) (by omega) (fun E h' n' _ z => det_x z) (det_k ?_)
  refine sw_astore (pc' := 7) (lv' := [(4, _), (0, _), (1, _), (2, _), (3, _)]) rfl dX3_insert_5 (by decide +kernel) rfl ?_
  refine sw_iload_n (pc' := 8) rfl dX3_insert_7 rfl ?_
  refine sw_aload (pc' := 10) rfl dX3_insert_8 rfl ?_
  refine sw_getf (ci := 2) (k := 2) (pc' := 13) rfl dX3_insert_10 (by decide +kernel) w_84 (hR.sh hk2).1 rfl ?_
  refine sw_iconst (pc' := 14) (v := 1) rfl dX3_insert_13 (by decide +kernel) ?_
  refine sw_iadd (pc' := 15) rfl dX3_insert_14 ?_
  rcases Classical.em (p < 0 ∨ (nI (σ.2.1 k2) + 1) ≤ p) with q15 | q15
  · refine sw_S (M' := MX3_requirePlace) (d' := d - 1) (bc' := 1) (bs' := 6) (as := [_, _]) dX3_insert_15 w_546 ok_X3_requirePlace (m_requirePlace_x (Nat.le_refl _) (Nat.le_refl _) q15) (by omega) (Nat.le_of_ble_eq_true rfl) (by omega) (by omega) (dx_x (swx_out rfl ?_)) (fun v h' n' _ z => dx_k z)
    rw [opInsert, onRw_k hk2 q2, if_pos q15]
    exact ⟨rfl, rfl, hR, FrC.rf⟩
  refine sw_S (M' := MX3_requirePlace) (d' := d - 1) (bc' := 1) (bs' := 6) (as := [_, _]) dX3_insert_15 w_546 ok_X3_requirePlace (m_requirePlace_k (Nat.le_refl _) (Nat.le_refl _) q15) (by omega) (Nat.le_of_ble_eq_true rfl) (by omega) (by omega) (fun E h' n' _ z => det_x z) (det_k ?_)
  refine sw_iload_n (pc' := 19) rfl dX3_insert_18 rfl ?_
  rcases Classical.em (x < 0 ∨ 100 < x) with q19 | q19
  · refine sw_S (M' := MX3_requireThingOrNothing) (d' := d - 1) (bc' := 1) (bs' := 6) (as := [_]) dX3_insert_19 w_407 ok_X3_requireThingOrNothing (m_requireThingOrNothing_x (Nat.le_refl _) (Nat.le_refl _) q19) (by omega) (Nat.le_of_ble_eq_true rfl) (by omega) (by omega) (dx_x (swx_out rfl ?_)) (fun v h' n' _ z => dx_k z)
    rw [opInsert, onRw_k hk2 q2, if_neg q15, if_pos q19]
    exact ⟨rfl, rfl, hR, FrC.rf⟩
  refine sw_S (M' := MX3_requireThingOrNothing) (d' := d - 1) (bc' := 1) (bs' := 6) (as := [_]) dX3_insert_19 w_407 ok_X3_requireThingOrNothing (m_requireThingOrNothing_k (Nat.le_refl _) (Nat.le_refl _) q19) (by omega) (Nat.le_of_ble_eq_true rfl) (by omega) (by omega) (fun E h' n' _ z => det_x z) (det_k ?_)
  refine sw_aload (pc' := 24) rfl dX3_insert_22 rfl ?_
  refine sw_iconst (pc' := 25) (v := 1) rfl dX3_insert_24 (by decide +kernel) ?_
  rcases Classical.em (12 < nI (σ.2.1 k2) + 1) with q25 | q25
  · refine sw_S (M' := MX3_requireRoom) (d' := d - 1) (bc' := 1) (bs' := 6) (as := [_, _]) dX3_insert_25 w_411 ok_X3_requireRoom (m_requireRoom_x (hR.sh hk2) (Nat.le_refl _) (Nat.le_refl _) q25) (by omega) (Nat.le_of_ble_eq_true rfl) (by omega) (by omega) (dx_x (swx_out rfl ?_)) (fun v h' n' _ z => dx_k z)
    rw [opInsert, onRw_k hk2 q2, if_neg q15, if_neg q19, if_pos q25]
    exact ⟨rfl, rfl, hR, FrC.rf⟩
  refine sw_S (M' := MX3_requireRoom) (d' := d - 1) (bc' := 1) (bs' := 6) (as := [_, _]) dX3_insert_25 w_411 ok_X3_requireRoom (m_requireRoom_k (hR.sh hk2) (Nat.le_refl _) (Nat.le_refl _) q25) (by omega) (Nat.le_of_ble_eq_true rfl) (by omega) (by omega) (fun E h' n' _ z => det_x z) (det_k ?_)
  obtain ⟨j, hj, ej⟩ := nI_of (fun e => q15 (Or.inl e))
  have hc := (hR.sh hk2).2.2.1
  have hc12 := roomC hc q25
  have hjc : j < σ.2.1 k2 + 1 := plc (by omega) hj ej (by rw [nI_succ]; exact q15)
  subst ej
  refine sw_aload (pc' := 30) rfl dX3_insert_28 rfl ?_
  refine sw_iload_n (pc' := 31) rfl dX3_insert_30 rfl ?_
  refine sw_iload_n (pc' := 32) rfl dX3_insert_31 rfl ?_
  refine sw_V (M' := MX1_layAhead) (d' := d - 1) (bc' := 0) (bs' := 0) (ci := 2) (as := [_, _]) dX3_insert_32 w_235 ok_X1_layAhead (m_layAhead (j := j) (hR.sh hk2) (by omega) hc12) (hR.sh hk2).1 rfl (by omega) (Nat.le_of_ble_eq_true rfl) (by omega) (by omega) (fun E h' n' _ z => shp_x z) (shp_k (fun p32 p32S p32F => ?_))
  refine sw_pop (pc' := 36) rfl dX3_insert_35 rfl ?_
  refine sw_aload (pc' := 38) rfl dX3_insert_36 rfl ?_
  refine sw_getf (ci := 2) (k := 2) (pc' := 41) rfl dX3_insert_38 (by decide +kernel) w_84 p32S.1 rfl ?_
  refine sw_ret (v := some _) ⟨dX3_insert_41, _, rfl, rfl⟩ ?_
  rw [opInsert, onRw_k hk2 q2, if_neg q15, if_neg q19, if_neg q25, nI_clamp hj]
  exact ⟨rfl, rfl, (hR.sU hk2 p32S (FrS.rf.tr p32F)), ((FrS.rf.tr p32F).c hk2)⟩
theorem m_remove {h : AH} {σ : CS} {d bc bs n : Nat} {a p : Int32} (hR : RC h σ) (hd : 6 ≤ d) (hb1 : 20 ≤ bc) (hb2 : 200 ≤ bs) : SM SR0 MX3_remove d bc bs [.ref 100, .int a, .int p] h n (CP h n (opRemove σ a p)) := by
  refine sm_of pn_Overwalks rfl (Nat.le_of_ble_eq_true rfl) ?_
  refine sw_aload_n (pc' := 1) rfl dX3_remove_0 rfl ?_
  refine sw_iload_n (pc' := 2) rfl dX3_remove_1 rfl ?_
  rcases idxN 11 (by decide +kernel) a with q2 | ⟨k2, hk2, q2⟩
  · refine sw_V (M' := MX3_rowAt) (d' := d - 1) (bc' := 2) (bs' := 12) (ci := 4) (as := [_]) dX3_remove_2 w_541 ok_X3_rowAt (m_rowAt_x hR (Nat.le_refl _) (Nat.le_refl _) (by omega) q2) hR.1 rfl (by omega) (Nat.le_of_ble_eq_true rfl) (by omega) (by omega) (dx_x (swx_out rfl ?_)) (fun v h' n' _ z => dx_k z)
    rw [opRemove, onRw_x q2]
    exact ⟨rfl, rfl, hR, FrC.rf⟩
  subst q2
  rcases Classical.em (kP (kdO k2) = false) with q2 | q2
  · refine sw_V (M' := MX3_rowAt) (d' := d - 1) (bc' := 2) (bs' := 12) (ci := 4) (as := [_]) dX3_remove_2 w_541 ok_X3_rowAt (m_rowAt_y hR (Nat.le_refl _) (Nat.le_refl _) (by omega) hk2 q2) hR.1 rfl (by omega) (Nat.le_of_ble_eq_true rfl) (by omega) (by omega) (dx_x (swx_out rfl ?_)) (fun v h' n' _ z => dx_k z)
    rw [opRemove, onRw_y hk2 q2]
    exact ⟨rfl, rfl, hR, FrC.rf⟩
  refine sw_V (M' := MX3_rowAt) (d' := d - 1) (bc' := 2) (bs' := 12) (ci := 4) (as := [_]) dX3_remove_2 w_541 ok_X3_rowAt (m_rowAt_k hR (Nat.le_refl _) (Nat.le_refl _) (by omega) hk2 q2) hR.1 rfl (by omega) (Nat.le_of_ble_eq_true rfl) (by omega) (by omega) (fun E h' n' _ z => det_x z) (det_k ?_)
  refine sw_astore_n (pc' := 6) (lv' := [(3, _), (0, _), (1, _), (2, _)]) rfl dX3_remove_5 (by decide +kernel) rfl ?_
  refine sw_iload_n (pc' := 7) rfl dX3_remove_6 rfl ?_
  refine sw_aload_n (pc' := 8) rfl dX3_remove_7 rfl ?_
  refine sw_getf (ci := 2) (k := 2) (pc' := 11) rfl dX3_remove_8 (by decide +kernel) w_84 (hR.sh hk2).1 rfl ?_
  rcases Classical.em (p < 0 ∨ nI (σ.2.1 k2) ≤ p) with q11 | q11
  · refine sw_S (M' := MX3_requirePlace) (d' := d - 1) (bc' := 1) (bs' := 6) (as := [_, _]) dX3_remove_11 w_546 ok_X3_requirePlace (m_requirePlace_x (Nat.le_refl _) (Nat.le_refl _) q11) (by omega) (Nat.le_of_ble_eq_true rfl) (by omega) (by omega) (dx_x (swx_out rfl ?_)) (fun v h' n' _ z => dx_k z)
    rw [opRemove, onRw_k hk2 q2, if_pos q11]
    exact ⟨rfl, rfl, hR, FrC.rf⟩
  refine sw_S (M' := MX3_requirePlace) (d' := d - 1) (bc' := 1) (bs' := 6) (as := [_, _]) dX3_remove_11 w_546 ok_X3_requirePlace (m_requirePlace_k (Nat.le_refl _) (Nat.le_refl _) q11) (by omega) (Nat.le_of_ble_eq_true rfl) (by omega) (by omega) (fun E h' n' _ z => det_x z) (det_k ?_)
  obtain ⟨j, hj, ej⟩ := nI_of (fun e => q11 (Or.inl e))
  have hc := (hR.sh hk2).2.2.1
  have hjc : j < σ.2.1 k2 := plc (by omega) hj ej q11
  have hS9 : ShF h (102 + 2 * k2) (kdO k2) (σ.1 k2) (σ.2.1 k2 - 1 + 1) (σ.2.2.1 k2) (σ.2.2.2.1 k2) := by
    rw [Nat.sub_add_cancel (by omega)]
    exact hR.sh hk2
  subst ej
  refine sw_aload_n (pc' := 15) rfl dX3_remove_14 rfl ?_
  refine sw_iload_n (pc' := 16) rfl dX3_remove_15 rfl ?_
  refine sw_V (M' := MX1_lift) (d' := d - 1) (bc' := 0) (bs' := 0) (ci := 2) (as := [_]) dX3_remove_16 w_486 ok_X1_lift (m_lift (j := j) hS9 (by omega)) (hR.sh hk2).1 rfl (by omega) (Nat.le_of_ble_eq_true rfl) (by omega) (by omega) (fun E h' n' _ z => shp_x z) (shp_k (fun p16 p16S p16F => ?_))
  refine sw_ret (v := some _) ⟨dX3_remove_19, _, rfl, rfl⟩ ?_
  rw [opRemove, onRw_k hk2 q2, if_neg q11, nI_clamp hj]
  exact ⟨rfl, rfl, (hR.sU hk2 p16S (FrS.rf.tr p16F)), ((FrS.rf.tr p16F).c hk2)⟩
end
section
/-! 19.ops -/
/-! more calls -/
def opSwap (σ : CS) (a p o : Int32) : ARes × CS := onRw a σ (fun k => if p < 0 ∨ nI (σ.2.1 k) ≤ p then (xI, σ) else if o < 0 ∨ nI (σ.2.1 k) ≤ o then (xI, σ) else (rI (σ.1 k o.toNatClampNeg), sU σ k (up (up (σ.1 k) p.toNatClampNeg (σ.1 k o.toNatClampNeg)) o.toNatClampNeg (σ.1 k p.toNatClampNeg)) (σ.2.1 k) (σ.2.2.1 k) (σ.2.2.2.1 k + 1)))
/-- one thing is LIFTED from place j of SHELF k -/
def lf1 (σ : CS) (k j : Nat) : CS := sU σ k (liN (σ.1 k) j (σ.2.1 k - 1)) (σ.2.1 k - 1) (σ.2.2.1 k + 1) (σ.2.2.2.1 k)
def liU (σ : CS) (k j : Nat) : CS := if kdO k = 5 then lf1 (lf1 σ 6 j) 7 j else lf1 σ k j
/-- all is lifted -/
def la1 (σ : CS) (k : Nat) : CS := sU σ k (σ.1 k) 0 (if σ.2.1 k = 0 then σ.2.2.1 k else σ.2.2.1 k + 1) (σ.2.2.2.1 k)
def laU (σ : CS) (k : Nat) : CS := if kdO k = 5 then la1 (la1 σ 6) 7 else la1 σ k
def opClear (σ : CS) (a : Int32) : ARes × CS := onSh a σ (fun k => (rI (nI (σ.2.1 k)), laU σ k))
def opTake (σ : CS) (a x : Int32) : ARes × CS := onSh a σ (fun k => if x < 0 ∨ 100 < x then (xA, σ) else if tkB k x = false then (rI (-9), rfU σ) else match fpN (σ.1 k) x 0 (σ.2.1 k) with | none => (rI 0, σ) | some p => (rI 1, liU σ k p))
theorem kd5 {k : Nat} (hk : k < 11) (e : kdO k = 5) : k = 6 ∨ k = 7 := by
  unfold kdO at e
  split at e
  · omega
  · split at e
    · omega
    · split at e
      · omega
      · split at e
        · omega
        · split at e <;> omega
theorem sh_pred {h : AH} {b kd c j : Nat} {f : Nat → Int32} {s t : Int32} (hS : ShF h b kd f c s t) (hj : j < c) : ShF h b kd f (c - 1 + 1) s t := by
  rw [Nat.sub_add_cancel (by omega)]
  exact hS
theorem m_swap {h : AH} {σ : CS} {d bc bs n : Nat} {a p o : Int32} (hR : RC h σ) (hd : 6 ≤ d) (hb1 : 20 ≤ bc) (hb2 : 200 ≤ bs) : SM SR0 MX3_swap d bc bs [.ref 100, .int a, .int p, .int o] h n (CP h n (opSwap σ a p o)) := by
  refine sm_of pn_Overwalks rfl (Nat.le_of_ble_eq_true rfl) ?_
  refine sw_aload_n (pc' := 1) rfl dX3_swap_0 rfl ?_
  refine sw_iload_n (pc' := 2) rfl dX3_swap_1 rfl ?_
  rcases idxN 11 (by decide +kernel) a with q2 | ⟨k2, hk2, q2⟩
  · refine sw_V (M' := MX3_rowAt) (d' := d - 1) (bc' := 2) (bs' := 12) (ci := 4) (as := [_]) dX3_swap_2 w_541 ok_X3_rowAt (m_rowAt_x hR (Nat.le_refl _) (Nat.le_refl _) (by omega) q2) hR.1 rfl (by omega) (Nat.le_of_ble_eq_true rfl) (by omega) (by omega) (dx_x (swx_out rfl ?_)) (fun v h' n' _ z => dx_k z)
    rw [opSwap, onRw_x q2]
    exact ⟨rfl, rfl, hR, FrC.rf⟩
  subst q2
  rcases Classical.em (kP (kdO k2) = false) with q2 | q2
  · refine sw_V (M' := MX3_rowAt) (d' := d - 1) (bc' := 2) (bs' := 12) (ci := 4) (as := [_]) dX3_swap_2 w_541 ok_X3_rowAt (m_rowAt_y hR (Nat.le_refl _) (Nat.le_refl _) (by omega) hk2 q2) hR.1 rfl (by omega) (Nat.le_of_ble_eq_true rfl) (by omega) (by omega) (dx_x (swx_out rfl ?_)) (fun v h' n' _ z => dx_k z)
    rw [opSwap, onRw_y hk2 q2]
    exact ⟨rfl, rfl, hR, FrC.rf⟩
  refine sw_V (M' := MX3_rowAt) (d' := d - 1) (bc' := 2) (bs' := 12) (ci := 4) (as := [_]) dX3_swap_2 w_541 ok_X3_rowAt (m_rowAt_k hR (Nat.le_refl _) (Nat.le_refl _) (by omega) hk2 q2) hR.1 rfl (by omega) (Nat.le_of_ble_eq_true rfl) (by omega) (by omega) (fun E h' n' _ z => det_x z) (det_k ?_)
  refine sw_astore (pc' := 7) (lv' := [(4, _), (0, _), (1, _), (2, _), (3, _)]) rfl dX3_swap_5 (by decide +kernel) rfl ?_
  refine sw_iload_n (pc' := 8) rfl dX3_swap_7 rfl ?_
  refine sw_aload (pc' := 10) rfl dX3_swap_8 rfl ?_
  refine sw_getf (ci := 2) (k := 2) (pc' := 13) rfl dX3_swap_10 (by decide +kernel) w_84 (hR.sh hk2).1 rfl ?_
  rcases Classical.em (p < 0 ∨ nI (σ.2.1 k2) ≤ p) with q13 | q13
  · refine sw_S (M' := MX3_requirePlace) (d' := d - 1) (bc' := 1) (bs' := 6) (as := [_, _]) dX3_swap_13 w_546 ok_X3_requirePlace (m_requirePlace_x (Nat.le_refl _) (Nat.le_refl _) q13) (by omega) (Nat.le_of_ble_eq_true rfl) (by omega) (by omega) (dx_x (swx_out rfl ?_)) (fun v h' n' _ z => dx_k z)
    rw [opSwap, onRw_k hk2 q2, if_pos q13]
    exact ⟨rfl, rfl, hR, FrC.rf⟩
  refine sw_S (M' := MX3_requirePlace) (d' := d - 1) (bc' := 1) (bs' := 6) (as := [_, _]) dX3_swap_13 w_546 ok_X3_requirePlace (m_requirePlace_k (Nat.le_refl _) (Nat.le_refl _) q13) (by omega) (Nat.le_of_ble_eq_true rfl) (by omega) (by omega) (fun E h' n' _ z => det_x z) (det_k ?_)
  refine sw_iload_n (pc' := 17) rfl dX3_swap_16 rfl ?_
  refine sw_aload (pc' := 19) rfl dX3_swap_17 rfl ?_
  refine sw_getf (ci := 2) (k := 2) (pc' := 22) rfl dX3_swap_19 (by decide +kernel) w_84 (hR.sh hk2).1 rfl ?_
  rcases Classical.em (o < 0 ∨ nI (σ.2.1 k2) ≤ o) with q22 | q22
  · refine sw_S (M' := MX3_requirePlace) (d' := d - 1) (bc' := 1) (bs' := 6) (as := [_, _]) dX3_swap_22 w_546 ok_X3_requirePlace (m_requirePlace_x (Nat.le_refl _) (Nat.le_refl _) q22) (by omega) (Nat.le_of_ble_eq_true rfl) (by omega) (by omega) (dx_x (swx_out rfl ?_)) (fun v h' n' _ z => dx_k z)
    rw [opSwap, onRw_k hk2 q2, if_neg q13, if_pos q22]
    exact ⟨rfl, rfl, hR, FrC.rf⟩
  refine sw_S (M' := MX3_requirePlace) (d' := d - 1) (bc' := 1) (bs' := 6) (as := [_, _]) dX3_swap_22 w_546 ok_X3_requirePlace (m_requirePlace_k (Nat.le_refl _) (Nat.le_refl _) q22) (by omega) (Nat.le_of_ble_eq_true rfl) (by omega) (by omega) (fun E h' n' _ z => det_x z) (det_k ?_)
  obtain ⟨j, hj, ej⟩ := nI_of (fun e => q13 (Or.inl e))
  obtain ⟨i, hi, ei⟩ := nI_of (fun e => q22 (Or.inl e))
  have hc := (hR.sh hk2).2.2.1
  have hjc : j < σ.2.1 k2 := plc (by omega) hj ej q13
  have hic : i < σ.2.1 k2 := plc (by omega) hi ei q22
  subst ej ei
  refine sw_aload (pc' := 27) rfl dX3_swap_25 rfl ?_
  refine sw_dup (pc' := 28) rfl dX3_swap_27 rfl ?_
  refine sw_getf (ci := 2) (k := 4) (pc' := 31) rfl dX3_swap_28 (by decide +kernel) w_89 (hR.sh hk2).1 rfl ?_
  refine sw_iconst (pc' := 32) (v := 1) rfl dX3_swap_31 (by decide +kernel) ?_
  refine sw_iadd (pc' := 33) rfl dX3_swap_32 ?_
  refine sw_putf (ci := 2) (k := 4) (pc' := 36) rfl dX3_swap_33 (by decide +kernel) (by decide +kernel) w_89 rfl (hR.sh hk2).1 (hR.sh hk2).2.2.2 (Nat.le_of_ble_eq_true rfl) rfl rfl ?_
  refine sw_nm (fun g1 eg1 => ?_)
  have zk2 := (congrFun eg1 _).trans (up_s (h := h) (i := (102 + 2 * k2)))
  have zk3 := ((congrFun eg1 100).trans (up_n (h := h) (by omega))).trans hR.1
  have zk4 := ((congrFun eg1 ((102 + 2 * k2) + 1)).trans (up_n (h := h) (by omega))).trans (hR.sh hk2).2.1
  refine sw_aload (pc' := 38) rfl dX3_swap_36 rfl ?_
  refine sw_iload_n (pc' := 39) rfl dX3_swap_38 rfl ?_
  refine sw_aload (pc' := 41) rfl dX3_swap_39 rfl ?_
  refine sw_iload_n (pc' := 42) rfl dX3_swap_41 rfl ?_
  refine sw_aload (pc' := 44) rfl dX3_swap_42 rfl ?_
  refine sw_iload_n (pc' := 45) rfl dX3_swap_44 rfl ?_
  refine sw_V (M' := MX1_thingAt) (d' := d - 1) (bc' := 0) (bs' := 0) (ci := 2) (as := [_]) dX3_swap_45 w_230 ok_X1_thingAt (m_thingAt (show ShF g1 (102 + 2 * k2) (kdO k2) (σ.1 k2) (σ.2.1 k2) (σ.2.2.1 k2) (σ.2.2.2.1 k2 + 1) from ⟨zk2, zk4, (hR.sh hk2).2.2⟩)) (show ShF g1 (102 + 2 * k2) (kdO k2) (σ.1 k2) (σ.2.1 k2) (σ.2.2.1 k2) (σ.2.2.2.1 k2 + 1) from ⟨zk2, zk4, (hR.sh hk2).2.2⟩).1 rfl (by omega) (Nat.le_of_ble_eq_true rfl) (by omega) (by omega) (fun E h' n' _ z => det_x z) (det_k ?_)
  refine sw_V (M' := MX1_exchange) (d' := d - 1) (bc' := 0) (bs' := 0) (ci := 2) (as := [_, _]) dX3_swap_48 w_512 ok_X1_exchange (m_exchange (j := j) (show ShF g1 (102 + 2 * k2) (kdO k2) (σ.1 k2) (σ.2.1 k2) (σ.2.2.1 k2) (σ.2.2.2.1 k2 + 1) from ⟨zk2, zk4, (show ShF g1 (102 + 2 * k2) (kdO k2) (σ.1 k2) (σ.2.1 k2) (σ.2.2.1 k2) (σ.2.2.2.1 k2 + 1) from ⟨zk2, zk4, (hR.sh hk2).2.2⟩).2.2⟩) hjc) (show ShF g1 (102 + 2 * k2) (kdO k2) (σ.1 k2) (σ.2.1 k2) (σ.2.2.1 k2) (σ.2.2.2.1 k2 + 1) from ⟨zk2, zk4, (show ShF g1 (102 + 2 * k2) (kdO k2) (σ.1 k2) (σ.2.1 k2) (σ.2.2.1 k2) (σ.2.2.2.1 k2 + 1) from ⟨zk2, zk4, (hR.sh hk2).2.2⟩).2.2⟩).1 rfl (by omega) (Nat.le_of_ble_eq_true rfl) (by omega) (by omega) (fun E h' n' _ z => shp_x z) (shp_k (fun p48 p48S p48F => ?_))
  refine sw_V (M' := MX1_exchange) (d' := d - 1) (bc' := 0) (bs' := 0) (ci := 2) (as := [_, _]) dX3_swap_51 w_512 ok_X1_exchange (m_exchange (j := i) p48S hic) p48S.1 rfl (by omega) (Nat.le_of_ble_eq_true rfl) (by omega) (by omega) (fun E h' n' _ z => shp_x z) (shp_k (fun p51 p51S p51F => ?_))
  refine sw_pop (pc' := 55) rfl dX3_swap_54 rfl ?_
  refine sw_aload (pc' := 57) rfl dX3_swap_55 rfl ?_
  refine sw_iload_n (pc' := 58) rfl dX3_swap_57 rfl ?_
  refine sw_V (M' := MX1_thingAt) (d' := d - 1) (bc' := 0) (bs' := 0) (ci := 2) (as := [_]) dX3_swap_58 w_230 ok_X1_thingAt (m_thingAt p51S) p51S.1 rfl (by omega) (Nat.le_of_ble_eq_true rfl) (by omega) (by omega) (fun E h' n' _ z => det_x z) (det_k ?_)
  refine sw_ret (v := some _) ⟨dX3_swap_61, _, rfl, rfl⟩ ?_
  have e1 : up (up (σ.1 k2) j (σ.1 k2 i)) i (σ.1 k2 j) j = σ.1 k2 i := by
    by_cases e : j = i
    · rw [e, up_s]
    · rw [up_n e, up_s]
  rw [taI_in hjc hc]
  rw [taI_in hic hc] at p51S
  rw [opSwap, onRw_k hk2 q2, if_neg q13, if_neg q22, nI_clamp hj, nI_clamp hi]
  exact ⟨by rw [taI_in hic hc, e1]; rfl, rfl, (hR.sU hk2 p51S (((show FrS h g1 (102 + 2 * k2) from (fun i h1 h2 => (congrFun eg1 i).trans ((up_n h1).trans (rfl)))).tr p48F).tr p51F)), ((((show FrS h g1 (102 + 2 * k2) from (fun i h1 h2 => (congrFun eg1 i).trans ((up_n h1).trans (rfl)))).tr p48F).tr p51F).c hk2)⟩
theorem m_drop {h : AH} {σ : CS} {d bc bs n : Nat} {a : Int32} (hR : RC h σ) (hd : 6 ≤ d) (hb1 : 20 ≤ bc) (hb2 : 200 ≤ bs) : SM SR0 MX3_drop d bc bs [.ref 100, .int a] h n (CP h n (opDrop σ a)) := by
  refine sm_of pn_Overwalks rfl (Nat.le_of_ble_eq_true rfl) ?_
  refine sw_aload_n (pc' := 1) rfl dX3_drop_0 rfl ?_
  refine sw_iload_n (pc' := 2) rfl dX3_drop_1 rfl ?_
  rcases idxN 6 (by decide +kernel) a with q2 | ⟨k2, hk2, q2⟩
  · refine sw_V (M' := MX3_walkAt) (d' := d - 1) (bc' := 1) (bs' := 6) (ci := 4) (as := [_]) dX3_drop_2 w_357 ok_X3_walkAt (m_walkAt_x hR (Nat.le_refl _) (Nat.le_refl _) q2) hR.1 rfl (by omega) (Nat.le_of_ble_eq_true rfl) (by omega) (by omega) (dx_x (swx_out rfl ?_)) (fun v h' n' _ z => dx_k z)
    rw [opDrop, onWk_x q2]
    exact ⟨rfl, rfl, hR, FrC.rf⟩
  subst q2
  refine sw_V (M' := MX3_walkAt) (d' := d - 1) (bc' := 1) (bs' := 6) (ci := 4) (as := [_]) dX3_drop_2 w_357 ok_X3_walkAt (m_walkAt_k hR (Nat.le_refl _) (Nat.le_refl _) hk2) hR.1 rfl (by omega) (Nat.le_of_ble_eq_true rfl) (by omega) (by omega) (fun E h' n' _ z => det_x z) (det_k ?_)
  refine sw_astore_n (pc' := 6) (lv' := [(2, _), (0, _), (1, _)]) rfl dX3_drop_5 (by decide +kernel) rfl ?_
  refine sw_aload_n (pc' := 7) rfl dX3_drop_6 rfl ?_
  refine sw_getf (ci := 3) (k := 0) (pc' := 10) rfl dX3_drop_7 (by decide +kernel) w_118 (hR.wk hk2).2.1 rfl ?_
  refine sw_istore_n (pc' := 11) (lv' := [(3, _), (2, _), (0, _), (1, _)]) rfl dX3_drop_10 (by decide +kernel) rfl ?_
  have ov : wO σ k2 < 11 := (hR.wk hk2).1
  refine sw_aload_n (pc' := 12) rfl dX3_drop_11 rfl ?_
  refine sw_iconst (pc' := 13) (v := 0) rfl dX3_drop_12 (by decide +kernel) ?_
  refine sw_putf (ci := 3) (k := 0) (pc' := 16) rfl dX3_drop_13 (by decide +kernel) (by decide +kernel) w_118 rfl (hR.wk hk2).2.1 (hR.wk hk2).2.2 (Nat.le_of_ble_eq_true rfl) rfl rfl ?_
  refine sw_nm (fun g1 eg1 => ?_)
  have zk2 := (congrFun eg1 _).trans (up_s (h := h) (i := (125 + k2)))
  have zk3 := ((congrFun eg1 100).trans (up_n (h := h) (by omega))).trans hR.1
  have zk4 := ((congrFun eg1 (102 + 2 * wO σ k2)).trans (up_n (h := h) (by omega))).trans (hR.sh (hR.wk hk2).1).1
  have zk5 := ((congrFun eg1 ((102 + 2 * wO σ k2) + 1)).trans (up_n (h := h) (by omega))).trans (hR.sh (hR.wk hk2).1).2.1
  refine sw_iload_n (pc' := 17) rfl dX3_drop_16 rfl ?_
  refine sw_S (M' := MX3_oneIf) (d' := d - 1) (bc' := 0) (bs' := 0) (as := [_]) dX3_drop_17 w_277 ok_X3_oneIf (m_oneIf) (by omega) (Nat.le_of_ble_eq_true rfl) (by omega) (by omega) (fun E h' n' _ z => det_x z) (det_k ?_)
  refine sw_ret (v := some _) ⟨dX3_drop_20, _, rfl, rfl⟩ ?_
  have hF : FrW h g1 (125 + k2) := (fun i h1 => (congrFun eg1 i).trans ((up_n h1).trans (rfl)))
  rw [opDrop, onWk_k hk2]
  exact ⟨rfl, rfl, hR.wU hk2 ⟨(hR.wk hk2).1, ⟨zk2, (hR.wk hk2).2.2⟩⟩ hF, hF.c (by omega) (by omega)⟩
theorem m_walk {h : AH} {σ : CS} {d bc bs n : Nat} {a b y : Int32} (hR : RC h σ) (hd : 6 ≤ d) (hb1 : 20 ≤ bc) (hb2 : 200 ≤ bs) : SM SR0 MX3_walk d bc bs [.ref 100, .int a, .int b, .int y] h n (CP h n (opWalk σ a b y)) := by
  refine sm_of pn_Overwalks rfl (Nat.le_of_ble_eq_true rfl) ?_
  refine sw_aload_n (pc' := 1) rfl dX3_walk_0 rfl ?_
  refine sw_iload_n (pc' := 2) rfl dX3_walk_1 rfl ?_
  rcases idxN 6 (by decide +kernel) a with q2 | ⟨k2, hk2, q2⟩
  · refine sw_V (M' := MX3_walkAt) (d' := d - 1) (bc' := 1) (bs' := 6) (ci := 4) (as := [_]) dX3_walk_2 w_357 ok_X3_walkAt (m_walkAt_x hR (Nat.le_refl _) (Nat.le_refl _) q2) hR.1 rfl (by omega) (Nat.le_of_ble_eq_true rfl) (by omega) (by omega) (dx_x (swx_out rfl ?_)) (fun v h' n' _ z => dx_k z)
    rw [opWalk, onWk_x q2]
    exact ⟨rfl, rfl, hR, FrC.rf⟩
  subst q2
  refine sw_V (M' := MX3_walkAt) (d' := d - 1) (bc' := 1) (bs' := 6) (ci := 4) (as := [_]) dX3_walk_2 w_357 ok_X3_walkAt (m_walkAt_k hR (Nat.le_refl _) (Nat.le_refl _) hk2) hR.1 rfl (by omega) (Nat.le_of_ble_eq_true rfl) (by omega) (by omega) (fun E h' n' _ z => det_x z) (det_k ?_)
  refine sw_astore (pc' := 7) (lv' := [(4, _), (0, _), (1, _), (2, _), (3, _)]) rfl dX3_walk_5 (by decide +kernel) rfl ?_
  refine sw_aload_n (pc' := 8) rfl dX3_walk_7 rfl ?_
  refine sw_iload_n (pc' := 9) rfl dX3_walk_8 rfl ?_
  rcases idxN 11 (by decide +kernel) b with q9 | ⟨k9, hk9, q9⟩
  · refine sw_V (M' := MX3_shelfAt) (d' := d - 1) (bc' := 1) (bs' := 6) (ci := 4) (as := [_]) dX3_walk_9 w_402 ok_X3_shelfAt (m_shelfAt_x hR (Nat.le_refl _) (Nat.le_refl _) q9) hR.1 rfl (by omega) (Nat.le_of_ble_eq_true rfl) (by omega) (by omega) (dx_x (swx_out rfl ?_)) (fun v h' n' _ z => dx_k z)
    rw [opWalk, onWk_k hk2, onSh_x q9]
    exact ⟨rfl, rfl, hR, FrC.rf⟩
  subst q9
  refine sw_V (M' := MX3_shelfAt) (d' := d - 1) (bc' := 1) (bs' := 6) (ci := 4) (as := [_]) dX3_walk_9 w_402 ok_X3_shelfAt (m_shelfAt_k hR (Nat.le_refl _) (Nat.le_refl _) hk9) hR.1 rfl (by omega) (Nat.le_of_ble_eq_true rfl) (by omega) (by omega) (fun E h' n' _ z => det_x z) (det_k ?_)
  refine sw_astore (pc' := 14) (lv' := [(5, _), (4, _), (0, _), (1, _), (2, _), (3, _)]) rfl dX3_walk_12 (by decide +kernel) rfl ?_
  refine sw_iload_n (pc' := 15) rfl dX3_walk_14 rfl ?_
  refine sw_if_lt (pc' := 18) (tgt := 23) rfl dX3_walk_15 (by decide +kernel) (fun c15 => ?_) (fun c15 => ?_)
  · refine sw_throw (names := ["java/lang/RuntimeException", "java/lang/Exception"]) rfl dX3_walk_23 dX3_walk_26 dX3_walk_27 dX3_walk_29 dX3_walk_32 (by decide +kernel) (by decide +kernel) (by decide +kernel) w_285 w_50 (SRm 12 rfl) th_Overwalks_154 (by omega) (by omega) ?_
    rw [opWalk, onWk_k hk2, onSh_k hk9, if_pos (Or.inl c15)]
    exact ⟨rfl, rfl, hR, FrC.rf⟩
  · refine sw_iload_n (pc' := 19) rfl dX3_walk_18 rfl ?_
    refine sw_iconst (pc' := 20) (v := 2) rfl dX3_walk_19 (by decide +kernel) ?_
    refine sw_icmp_le (pc' := 23) (tgt := 33) rfl dX3_walk_20 (by decide +kernel) (fun c20 => ?_) (fun c20 => ?_)
    · refine sw_iload_n (pc' := 34) rfl dX3_walk_33 rfl ?_
      refine sw_iconst (pc' := 35) (v := 2) rfl dX3_walk_34 (by decide +kernel) ?_
      refine sw_icmp_ne (pc' := 38) (tgt := 52) rfl dX3_walk_35 (by decide +kernel) (fun c35 => ?_) (fun c35 => ?_)
      · have ov : wO σ k2 < 11 := (hR.wk hk2).1
        refine sw_aload (pc' := 54) rfl dX3_walk_52 rfl ?_
        refine sw_aload (pc' := 56) rfl dX3_walk_54 rfl ?_
        refine sw_iload_n (pc' := 57) rfl dX3_walk_56 rfl ?_
        refine sw_iload_n (pc' := 58) rfl dX3_walk_57 rfl ?_
        refine sw_V (M' := MX2_begin) (d' := d - 1) (bc' := 0) (bs' := 0) (ci := 3) (as := [_, _, _]) dX3_walk_58 w_184 ok_X2_begin (m_begin (hR.wk hk2).2 (hR.sh hk9) (by omega)) (hR.wk hk2).2.1 rfl (by omega) (Nat.le_of_ble_eq_true rfl) (by omega) (by omega) (fun E h' n' _ z => wkp_x z) (wkp_k (fun p58 p58W p58F => ?_))
        refine sw_aload (pc' := 63) rfl dX3_walk_61 rfl ?_
        refine sw_getf (ci := 2) (k := 2) (pc' := 66) rfl dX3_walk_63 (by decide +kernel) w_84 ((p58F (102 + 2 * k9) (by omega)).trans (hR.sh hk9).1) rfl ?_
        refine sw_ret (v := some _) ⟨dX3_walk_66, _, rfl, rfl⟩ ?_
        rw [opWalk, onWk_k hk2, onSh_k hk9, if_neg (fun q => q.elim c15 (Int32.not_lt.mpr c20)), if_neg (fun q => c35 q.1)]
        exact ⟨rfl, rfl, (hR.wU hk2 ⟨hk9, p58W⟩ p58F), (p58F.c (by omega) (by omega))⟩
      · refine sw_iload_n (pc' := 39) rfl dX3_walk_38 rfl ?_
        refine sw_if_eq (pc' := 42) (tgt := 52) rfl dX3_walk_39 (by decide +kernel) (fun c39 => ?_) (fun c39 => ?_)
        · have ov : wO σ k2 < 11 := (hR.wk hk2).1
          refine sw_aload (pc' := 54) rfl dX3_walk_52 rfl ?_
          refine sw_aload (pc' := 56) rfl dX3_walk_54 rfl ?_
          refine sw_iload_n (pc' := 57) rfl dX3_walk_56 rfl ?_
          refine sw_iload_n (pc' := 58) rfl dX3_walk_57 rfl ?_
          refine sw_V (M' := MX2_begin) (d' := d - 1) (bc' := 0) (bs' := 0) (ci := 3) (as := [_, _, _]) dX3_walk_58 w_184 ok_X2_begin (m_begin (hR.wk hk2).2 (hR.sh hk9) (by omega)) (hR.wk hk2).2.1 rfl (by omega) (Nat.le_of_ble_eq_true rfl) (by omega) (by omega) (fun E h' n' _ z => wkp_x z) (wkp_k (fun p58 p58W p58F => ?_))
          refine sw_aload (pc' := 63) rfl dX3_walk_61 rfl ?_
          refine sw_getf (ci := 2) (k := 2) (pc' := 66) rfl dX3_walk_63 (by decide +kernel) w_84 ((p58F (102 + 2 * k9) (by omega)).trans (hR.sh hk9).1) rfl ?_
          refine sw_ret (v := some _) ⟨dX3_walk_66, _, rfl, rfl⟩ ?_
          rw [opWalk, onWk_k hk2, onSh_k hk9, if_neg (fun q => q.elim c15 (Int32.not_lt.mpr c20)), if_neg (fun q => q.2 c39)]
          exact ⟨rfl, rfl, (hR.wU hk2 ⟨hk9, p58W⟩ p58F), (p58F.c (by omega) (by omega))⟩
        · refine sw_throw (names := ["java/lang/RuntimeException", "java/lang/Exception"]) rfl dX3_walk_42 dX3_walk_45 dX3_walk_46 dX3_walk_48 dX3_walk_51 (by decide +kernel) (by decide +kernel) (by decide +kernel) w_285 w_50 (SRm 13 rfl) th_Overwalks_154 (by omega) (by omega) ?_
          rw [opWalk, onWk_k hk2, onSh_k hk9, if_neg (fun q => q.elim c15 (Int32.not_lt.mpr c20)), if_pos ⟨c35, c39⟩]
          exact ⟨rfl, rfl, hR, FrC.rf⟩
    · refine sw_throw (names := ["java/lang/RuntimeException", "java/lang/Exception"]) rfl dX3_walk_23 dX3_walk_26 dX3_walk_27 dX3_walk_29 dX3_walk_32 (by decide +kernel) (by decide +kernel) (by decide +kernel) w_285 w_50 (SRm 12 rfl) th_Overwalks_154 (by omega) (by omega) ?_
      rw [opWalk, onWk_k hk2, onSh_k hk9, if_pos (Or.inr (Int32.not_le.mp c20))]
      exact ⟨rfl, rfl, hR, FrC.rf⟩
theorem m_liftFrom {h : AH} {σ : CS} {d bc bs n k j : Nat} (hR : RC h σ) (hk : k < 11) (hj : j < σ.2.1 k) (hT : σ.2.1 6 = σ.2.1 7) (hd : 1 ≤ d) : SM SR0 MX3_liftFrom d bc bs [.ref 100, .ref (102 + 2 * k), .int (nI j)] h n (CP h n (ivN, liU σ k j)) := by
  refine sm_of pn_Overwalks rfl (Nat.le_of_ble_eq_true rfl) ?_
  refine sw_aload_n (pc' := 1) rfl dX3_liftFrom_0 rfl ?_
  refine sw_V (M' := MX1_isOfTable) (d' := d - 1) (bc' := 0) (bs' := 0) (ci := 2) (as := []) dX3_liftFrom_1 w_430 ok_X1_isOfTable (m_isOfTable (hR.sh hk) kdO_r) (hR.sh hk).1 rfl (by omega) (Nat.le_of_ble_eq_true rfl) (by omega) (by omega) (fun E h' n' _ z => det_x z) (det_k ?_)
  refine sw_if_eq (pc' := 7) (tgt := 34) rfl dX3_liftFrom_4 (by decide +kernel) (fun c4 => ?_) (fun c4 => ?_)
  · refine sw_aload_n (pc' := 35) rfl dX3_liftFrom_34 rfl ?_
    refine sw_iload_n (pc' := 36) rfl dX3_liftFrom_35 rfl ?_
    refine sw_V (M' := MX1_lift) (d' := d - 1) (bc' := 0) (bs' := 0) (ci := 2) (as := [_]) dX3_liftFrom_36 w_486 ok_X1_lift (m_lift (j := j) (sh_pred (hR.sh (k := k) hk) hj) (by omega)) (hR.sh (k := k) hk).1 rfl (by omega) (Nat.le_of_ble_eq_true rfl) (by omega) (by omega) (fun E h' n' _ z => shp_x z) (shp_k (fun p36 p36S p36F => ?_))
    have p36R : RC p36 (lf1 σ k j) := hR.sU hk p36S p36F
    have p36C : FrC h p36 n := p36F.c hk
    refine sw_pop (pc' := 40) rfl dX3_liftFrom_39 rfl ?_
    refine sw_ret (v := none) ⟨dX3_liftFrom_40, rfl⟩ ?_
    rw [liU, if_neg (of_decide_eq_false (bI_0 c4))]
    exact ⟨rfl, rfl, p36R, p36C⟩
  · obtain ⟨g1, ga1, gb1⟩ := hR.2.1
    have h67 := kd5 hk (of_decide_eq_true (bI_1 c4))
    have hj6 : j < σ.2.1 6 := by rcases h67 with e | e <;> subst e <;> omega
    have hj7 : j < (lf1 σ 6 j).2.1 7 := by
      show j < up σ.2.1 6 (σ.2.1 6 - 1) 7
      rw [up_n (by decide +kernel)]
      omega
    refine sw_aload_n (pc' := 8) rfl dX3_liftFrom_7 rfl ?_
    refine sw_getf (ci := 4) (k := 0) (pc' := 11) rfl dX3_liftFrom_8 (by decide +kernel) w_150 hR.1 rfl ?_
    refine sw_bipush (pc' := 13) (v := 6) rfl dX3_liftFrom_11 (by decide +kernel) ?_
    refine sw_aald (pc' := 14) rfl dX3_liftFrom_13 ga1 (by decide +kernel) (by decide +kernel) (j := 6) rfl (by decide +kernel) (by decide +kernel) (gb1 6 (by decide +kernel)) ?_
    refine sw_iload_n (pc' := 15) rfl dX3_liftFrom_14 rfl ?_
    refine sw_V (M' := MX1_lift) (d' := d - 1) (bc' := 0) (bs' := 0) (ci := 2) (as := [_]) dX3_liftFrom_15 w_486 ok_X1_lift (m_lift (j := j) (sh_pred (hR.sh (k := 6) (by decide +kernel)) hj6) (by omega)) (hR.sh (k := 6) (by decide +kernel)).1 rfl (by omega) (Nat.le_of_ble_eq_true rfl) (by omega) (by omega) (fun E h' n' _ z => shp_x z) (shp_k (fun p15 p15S p15F => ?_))
    have p15R : RC p15 (lf1 σ 6 j) := hR.sU (by decide +kernel) p15S p15F
    have p15C : FrC h p15 n := p15F.c (by decide +kernel)
    refine sw_pop (pc' := 19) rfl dX3_liftFrom_18 rfl ?_
    obtain ⟨g2, ga2, gb2⟩ := p15R.2.1
    refine sw_aload_n (pc' := 20) rfl dX3_liftFrom_19 rfl ?_
    refine sw_getf (ci := 4) (k := 0) (pc' := 23) rfl dX3_liftFrom_20 (by decide +kernel) w_150 p15R.1 rfl ?_
    refine sw_bipush (pc' := 25) (v := 7) rfl dX3_liftFrom_23 (by decide +kernel) ?_
    refine sw_aald (pc' := 26) rfl dX3_liftFrom_25 ga2 (by decide +kernel) (by decide +kernel) (j := 7) rfl (by decide +kernel) (by decide +kernel) (gb2 7 (by decide +kernel)) ?_
    refine sw_iload_n (pc' := 27) rfl dX3_liftFrom_26 rfl ?_
    refine sw_V (M' := MX1_lift) (d' := d - 1) (bc' := 0) (bs' := 0) (ci := 2) (as := [_]) dX3_liftFrom_27 w_486 ok_X1_lift (m_lift (j := j) (sh_pred (p15R.sh (k := 7) (by decide +kernel)) hj7) (by omega)) (p15R.sh (k := 7) (by decide +kernel)).1 rfl (by omega) (Nat.le_of_ble_eq_true rfl) (by omega) (by omega) (fun E h' n' _ z => shp_x z) (shp_k (fun p27 p27S p27F => ?_))
    have p27R : RC p27 (lf1 (lf1 σ 6 j) 7 j) := p15R.sU (by decide +kernel) p27S p27F
    have p27C : FrC h p27 n := p15C.tr (p27F.c (by decide +kernel)) (Nat.le_refl _)
    refine sw_pop (pc' := 31) rfl dX3_liftFrom_30 rfl ?_
    refine sw_goto (tgt := 40) dX3_liftFrom_31 (by decide +kernel) ?_
    refine sw_ret (v := none) ⟨dX3_liftFrom_40, rfl⟩ ?_
    rw [liU, if_pos (of_decide_eq_true (bI_1 c4))]
    exact ⟨rfl, rfl, p27R, p27C⟩
theorem m_take {h : AH} {σ : CS} {d bc bs n : Nat} {a x : Int32} (hR : RC h σ) (hd : 6 ≤ d) (hb1 : 20 ≤ bc) (hb2 : 200 ≤ bs) (hT : σ.2.1 6 = σ.2.1 7) : SM SR0 MX3_take d bc bs [.ref 100, .int a, .int x] h n (CP h n (opTake σ a x)) := by
  refine sm_of pn_Overwalks rfl (Nat.le_of_ble_eq_true rfl) ?_
  refine sw_aload_n (pc' := 1) rfl dX3_take_0 rfl ?_
  refine sw_iload_n (pc' := 2) rfl dX3_take_1 rfl ?_
  rcases idxN 11 (by decide +kernel) a with q2 | ⟨k2, hk2, q2⟩
  · refine sw_V (M' := MX3_shelfAt) (d' := d - 1) (bc' := 1) (bs' := 6) (ci := 4) (as := [_]) dX3_take_2 w_402 ok_X3_shelfAt (m_shelfAt_x hR (Nat.le_refl _) (Nat.le_refl _) q2) hR.1 rfl (by omega) (Nat.le_of_ble_eq_true rfl) (by omega) (by omega) (dx_x (swx_out rfl ?_)) (fun v h' n' _ z => dx_k z)
    rw [opTake, onSh_x q2]
    exact ⟨rfl, rfl, hR, FrC.rf⟩
  subst q2
  refine sw_V (M' := MX3_shelfAt) (d' := d - 1) (bc' := 1) (bs' := 6) (ci := 4) (as := [_]) dX3_take_2 w_402 ok_X3_shelfAt (m_shelfAt_k hR (Nat.le_refl _) (Nat.le_refl _) hk2) hR.1 rfl (by omega) (Nat.le_of_ble_eq_true rfl) (by omega) (by omega) (fun E h' n' _ z => det_x z) (det_k ?_)
  refine sw_astore_n (pc' := 6) (lv' := [(3, _), (0, _), (1, _), (2, _)]) rfl dX3_take_5 (by decide +kernel) rfl ?_
  refine sw_iload_n (pc' := 7) rfl dX3_take_6 rfl ?_
  rcases Classical.em (x < 0 ∨ 100 < x) with q7 | q7
  · refine sw_S (M' := MX3_requireThingOrNothing) (d' := d - 1) (bc' := 1) (bs' := 6) (as := [_]) dX3_take_7 w_407 ok_X3_requireThingOrNothing (m_requireThingOrNothing_x (Nat.le_refl _) (Nat.le_refl _) q7) (by omega) (Nat.le_of_ble_eq_true rfl) (by omega) (by omega) (dx_x (swx_out rfl ?_)) (fun v h' n' _ z => dx_k z)
    rw [opTake, onSh_k hk2, if_pos q7]
    exact ⟨rfl, rfl, hR, FrC.rf⟩
  refine sw_S (M' := MX3_requireThingOrNothing) (d' := d - 1) (bc' := 1) (bs' := 6) (as := [_]) dX3_take_7 w_407 ok_X3_requireThingOrNothing (m_requireThingOrNothing_k (Nat.le_refl _) (Nat.le_refl _) q7) (by omega) (Nat.le_of_ble_eq_true rfl) (by omega) (by omega) (fun E h' n' _ z => det_x z) (det_k ?_)
  refine sw_aload_n (pc' := 11) rfl dX3_take_10 rfl ?_
  refine sw_iload_n (pc' := 12) rfl dX3_take_11 rfl ?_
  refine sw_V (M' := MX1_takesIn) (d' := d - 1) (bc' := 0) (bs' := 0) (ci := 2) (as := [_]) dX3_take_12 w_435 ok_X1_takesIn (m_takesIn (hR.sh hk2) (hR.kd kdO_r)) (hR.sh hk2).1 rfl (by omega) (Nat.le_of_ble_eq_true rfl) (by omega) (by omega) (fun E h' n' _ z => det_x z) (det_k ?_)
  refine sw_if_ne (pc' := 18) (tgt := 23) rfl dX3_take_15 (by decide +kernel) (fun c15 => ?_) (fun c15 => ?_)
  · refine sw_aload_n (pc' := 24) rfl dX3_take_23 rfl ?_
    refine sw_iload_n (pc' := 25) rfl dX3_take_24 rfl ?_
    refine sw_V (M' := MX1_firstPlace) (d' := d - 1) (bc' := 0) (bs' := 0) (ci := 2) (as := [_]) dX3_take_25 w_481 ok_X1_firstPlace (m_firstPlace (hR.sh hk2)) (hR.sh hk2).1 rfl (by omega) (Nat.le_of_ble_eq_true rfl) (by omega) (by omega) (fun E h' n' _ z => det_x z) (det_k ?_)
    refine sw_istore (pc' := 30) (lv' := [(4, _), (3, _), (0, _), (1, _), (2, _)]) rfl dX3_take_28 (by decide +kernel) rfl ?_
    refine sw_iload (pc' := 32) rfl dX3_take_30 rfl ?_
    refine sw_iconst (pc' := 33) (v := (-1)) rfl dX3_take_32 (by decide +kernel) ?_
    refine sw_icmp_ne (pc' := 36) (tgt := 38) rfl dX3_take_33 (by decide +kernel) (fun c33 => ?_) (fun c33 => ?_)
    · have e1 : ∃ p, fpN (σ.1 k2) x 0 (σ.2.1 k2) = some p := by
        cases e : fpN (σ.1 k2) x 0 (σ.2.1 k2) with
        | none => rw [e] at c33; exact absurd rfl c33
        | some p => exact ⟨p, rfl⟩
      obtain ⟨p, e1⟩ := e1
      have hp := (fpN_at e1).2.1
      rw [e1]
      refine sw_aload_n (pc' := 39) rfl dX3_take_38 rfl ?_
      refine sw_aload_n (pc' := 40) rfl dX3_take_39 rfl ?_
      refine sw_iload (pc' := 42) rfl dX3_take_40 rfl ?_
      refine sw_V (M' := MX3_liftFrom) (d' := d - 1) (bc' := 0) (bs' := 0) (ci := 4) (as := [_, _]) dX3_take_42 w_482 ok_X3_liftFrom (m_liftFrom hR hk2 (by omega) hT (by omega)) hR.1 rfl (by omega) (Nat.le_of_ble_eq_true rfl) (by omega) (by omega) (fun E h' n' _ z => cp_x z) (cp_k (fun p42 p42R p42F => ?_))
      refine sw_iconst (pc' := 46) (v := 1) rfl dX3_take_45 (by decide +kernel) ?_
      refine sw_ret (v := some _) ⟨dX3_take_46, _, rfl, rfl⟩ ?_
      rw [opTake, onSh_k hk2, if_neg q7, if_neg (fun q : tkB k2 x = false => by unfold tkB at q; rw [q] at c15; exact c15 rfl), e1]
      exact ⟨rfl, rfl, p42R, p42F⟩
    · refine sw_iconst (pc' := 37) (v := 0) rfl dX3_take_36 (by decide +kernel) ?_
      refine sw_ret (v := some _) ⟨dX3_take_37, _, rfl, rfl⟩ ?_
      rw [opTake, onSh_k hk2, if_neg q7, if_neg (fun q : tkB k2 x = false => by unfold tkB at q; rw [q] at c15; exact c15 rfl), opI_n (o := fpN (σ.1 k2) x 0 (σ.2.1 k2)) (fun j e => by have := fpN_at e; have := (hR.sh hk2).2.2.1; omega) c33]
      exact ⟨rfl, rfl, hR, FrC.rf⟩
  · refine sw_aload_n (pc' := 19) rfl dX3_take_18 rfl ?_
    refine sw_V (M' := MX3_refuse) (d' := d - 1) (bc' := 0) (bs' := 0) (ci := 4) (as := []) dX3_take_19 w_439 ok_X3_refuse (m_refuse hR) hR.1 rfl (by omega) (Nat.le_of_ble_eq_true rfl) (by omega) (by omega) (fun E h' n' _ z => cp_x z) (cp_k (fun p19 p19R p19F => ?_))
    refine sw_ret (v := some _) ⟨dX3_take_22, _, rfl, rfl⟩ ?_
    rw [opTake, onSh_k hk2, if_neg q7, if_pos (bI_0 c15 : tkB k2 x = false)]
    exact ⟨rfl, rfl, p19R, p19F⟩
end
section
/-! 20.ops -/
/-! more calls -/
def onLi (a : Int32) (σ : CS) (g : Nat → ARes × CS) : ARes × CS := if a < 8 then (xI, σ) else onSh a σ g
theorem onLi_x {a : Int32} {σ : CS} {g : Nat → ARes × CS} (q : a < 8) : onLi a σ g = (xI, σ) := if_pos q
theorem onLi_y {a : Int32} {σ : CS} {g : Nat → ARes × CS} (q0 : ¬ a < 8) (q : a < 0 ∨ nI 11 ≤ a) : onLi a σ g = (xI, σ) := (if_neg q0).trans (onSh_x q)
theorem onLi_k {k : Nat} {σ : CS} {g : Nat → ARes × CS} (q0 : ¬ nI k < 8) (hk : k < 11) : onLi (nI k) σ g = g k := (if_neg q0).trans (onSh_k hk)
def la2 (σ : CS) (k j : Nat) (x : Int32) : CS := sU σ k (laN (σ.1 k) j x (σ.2.1 k)) (σ.2.1 k + 1) (σ.2.2.1 k + 1) (σ.2.2.2.1 k)
def prR (σ : CS) (x : Int32) : Nat := rpN (σ.1 6) x 0 (σ.2.1 6)
def opPair (σ : CS) (x y : Int32) : ARes × CS := if x < 0 ∨ 100 ≤ x then (xA, σ) else if y < 0 ∨ 100 ≤ y then (xA, σ) else match fpN (σ.1 6) x 0 (σ.2.1 6) with | some p => (rI (σ.1 7 p), sU σ 7 (up (σ.1 7) p y) (σ.2.1 7) (σ.2.2.1 7) (σ.2.2.2.1 7)) | none => if 12 < nI (σ.2.1 6) + 1 then (xS, σ) else (rI (-1), la2 (la2 σ 6 (prR σ x) x) 7 (prR σ x) y)
def kpU (σ : CS) (k j : Nat) (m : Nat) : CS := sU σ k (blN (σ.1 k) (σ.1 j) m (σ.2.1 j - m)) (σ.2.1 j - m) (σ.2.2.1 k + 1) (σ.2.2.2.1 k)
def opKeep (σ : CS) (a b : Int32) : ARes × CS := onLi a σ (fun k => onSh b σ (fun j => (rI (nI (σ.2.1 j)), kpU σ k j 0)))
theorem m_clear {h : AH} {σ : CS} {d bc bs n : Nat} {a : Int32} (hR : RC h σ) (hd : 6 ≤ d) (hb1 : 20 ≤ bc) (hb2 : 200 ≤ bs) : SM SR0 MX3_clear d bc bs [.ref 100, .int a] h n (CP h n (opClear σ a)) := by
  refine sm_of pn_Overwalks rfl (Nat.le_of_ble_eq_true rfl) ?_
  refine sw_aload_n (pc' := 1) rfl dX3_clear_0 rfl ?_
  refine sw_iload_n (pc' := 2) rfl dX3_clear_1 rfl ?_
  rcases idxN 11 (by decide +kernel) a with q2 | ⟨k2, hk2, q2⟩
  · refine sw_V (M' := MX3_shelfAt) (d' := d - 1) (bc' := 1) (bs' := 6) (ci := 4) (as := [_]) dX3_clear_2 w_402 ok_X3_shelfAt (m_shelfAt_x hR (Nat.le_refl _) (Nat.le_refl _) q2) hR.1 rfl (by omega) (Nat.le_of_ble_eq_true rfl) (by omega) (by omega) (dx_x (swx_out rfl ?_)) (fun v h' n' _ z => dx_k z)
    rw [opClear, onSh_x q2]
    exact ⟨rfl, rfl, hR, FrC.rf⟩
  subst q2
  refine sw_V (M' := MX3_shelfAt) (d' := d - 1) (bc' := 1) (bs' := 6) (ci := 4) (as := [_]) dX3_clear_2 w_402 ok_X3_shelfAt (m_shelfAt_k hR (Nat.le_refl _) (Nat.le_refl _) hk2) hR.1 rfl (by omega) (Nat.le_of_ble_eq_true rfl) (by omega) (by omega) (fun E h' n' _ z => det_x z) (det_k ?_)
  refine sw_astore_n (pc' := 6) (lv' := [(2, _), (0, _), (1, _)]) rfl dX3_clear_5 (by decide +kernel) rfl ?_
  refine sw_aload_n (pc' := 7) rfl dX3_clear_6 rfl ?_
  refine sw_getf (ci := 2) (k := 2) (pc' := 10) rfl dX3_clear_7 (by decide +kernel) w_84 (hR.sh hk2).1 rfl ?_
  refine sw_istore_n (pc' := 11) (lv' := [(3, _), (2, _), (0, _), (1, _)]) rfl dX3_clear_10 (by decide +kernel) rfl ?_
  refine sw_aload_n (pc' := 12) rfl dX3_clear_11 rfl ?_
  refine sw_V (M' := MX1_isOfTable) (d' := d - 1) (bc' := 0) (bs' := 0) (ci := 2) (as := []) dX3_clear_12 w_430 ok_X1_isOfTable (m_isOfTable (hR.sh hk2) kdO_r) (hR.sh hk2).1 rfl (by omega) (Nat.le_of_ble_eq_true rfl) (by omega) (by omega) (fun E h' n' _ z => det_x z) (det_k ?_)
  refine sw_if_eq (pc' := 18) (tgt := 41) rfl dX3_clear_15 (by decide +kernel) (fun c15 => ?_) (fun c15 => ?_)
  · refine sw_aload_n (pc' := 42) rfl dX3_clear_41 rfl ?_
    refine sw_V (M' := MX1_liftAll) (d' := d - 1) (bc' := 0) (bs' := 0) (ci := 2) (as := []) dX3_clear_42 w_497 ok_X1_liftAll (m_liftAll (hR.sh (k := k2) hk2)) (hR.sh (k := k2) hk2).1 rfl (by omega) (Nat.le_of_ble_eq_true rfl) (by omega) (by omega) (fun E h' n' _ z => shp_x z) (shp_k (fun p42 p42S p42F => ?_))
    have p42R : RC p42 (la1 σ k2) := hR.sU hk2 p42S p42F
    have p42C : FrC h p42 n := p42F.c hk2
    refine sw_iload_n (pc' := 46) rfl dX3_clear_45 rfl ?_
    refine sw_ret (v := some _) ⟨dX3_clear_46, _, rfl, rfl⟩ ?_
    rw [opClear, onSh_k hk2, show laU σ k2 = la1 σ k2 from if_neg (of_decide_eq_false (bI_0 c15))]
    exact ⟨rfl, rfl, p42R, p42C⟩
  · obtain ⟨g1, ga1, gb1⟩ := hR.2.1
    refine sw_aload_n (pc' := 19) rfl dX3_clear_18 rfl ?_
    refine sw_getf (ci := 4) (k := 0) (pc' := 22) rfl dX3_clear_19 (by decide +kernel) w_150 hR.1 rfl ?_
    refine sw_bipush (pc' := 24) (v := 6) rfl dX3_clear_22 (by decide +kernel) ?_
    refine sw_aald (pc' := 25) rfl dX3_clear_24 ga1 (by decide +kernel) (by decide +kernel) (j := 6) rfl (by decide +kernel) (by decide +kernel) (gb1 6 (by decide +kernel)) ?_
    refine sw_V (M' := MX1_liftAll) (d' := d - 1) (bc' := 0) (bs' := 0) (ci := 2) (as := []) dX3_clear_25 w_497 ok_X1_liftAll (m_liftAll (hR.sh (k := 6) (by decide +kernel))) (hR.sh (k := 6) (by decide +kernel)).1 rfl (by omega) (Nat.le_of_ble_eq_true rfl) (by omega) (by omega) (fun E h' n' _ z => shp_x z) (shp_k (fun p25 p25S p25F => ?_))
    have p25R : RC p25 (la1 σ 6) := hR.sU (by decide +kernel) p25S p25F
    have p25C : FrC h p25 n := p25F.c (by decide +kernel)
    obtain ⟨g2, ga2, gb2⟩ := p25R.2.1
    refine sw_aload_n (pc' := 29) rfl dX3_clear_28 rfl ?_
    refine sw_getf (ci := 4) (k := 0) (pc' := 32) rfl dX3_clear_29 (by decide +kernel) w_150 p25R.1 rfl ?_
    refine sw_bipush (pc' := 34) (v := 7) rfl dX3_clear_32 (by decide +kernel) ?_
    refine sw_aald (pc' := 35) rfl dX3_clear_34 ga2 (by decide +kernel) (by decide +kernel) (j := 7) rfl (by decide +kernel) (by decide +kernel) (gb2 7 (by decide +kernel)) ?_
    refine sw_V (M' := MX1_liftAll) (d' := d - 1) (bc' := 0) (bs' := 0) (ci := 2) (as := []) dX3_clear_35 w_497 ok_X1_liftAll (m_liftAll (p25R.sh (k := 7) (by decide +kernel))) (p25R.sh (k := 7) (by decide +kernel)).1 rfl (by omega) (Nat.le_of_ble_eq_true rfl) (by omega) (by omega) (fun E h' n' _ z => shp_x z) (shp_k (fun p35 p35S p35F => ?_))
    have p35R : RC p35 (la1 (la1 σ 6) 7) := p25R.sU (by decide +kernel) p35S p35F
    have p35C : FrC h p35 n := p25C.tr (p35F.c (by decide +kernel)) (Nat.le_refl _)
    refine sw_goto (tgt := 45) dX3_clear_38 (by decide +kernel) ?_
    refine sw_iload_n (pc' := 46) rfl dX3_clear_45 rfl ?_
    refine sw_ret (v := some _) ⟨dX3_clear_46, _, rfl, rfl⟩ ?_
    rw [opClear, onSh_k hk2, show laU σ k2 = la1 (la1 σ 6) 7 from if_pos (of_decide_eq_true (bI_1 c15))]
    exact ⟨rfl, rfl, p35R, p35C⟩
theorem m_pair {h : AH} {σ : CS} {d bc bs n : Nat} {x y : Int32} (hR : RC h σ) (hd : 6 ≤ d) (hb1 : 20 ≤ bc) (hb2 : 200 ≤ bs) (hT : σ.2.1 6 = σ.2.1 7) : SM SR0 MX3_pair d bc bs [.ref 100, .int x, .int y] h n (CP h n (opPair σ x y)) := by
  refine sm_of pn_Overwalks rfl (Nat.le_of_ble_eq_true rfl) ?_
  refine sw_iload_n (pc' := 1) rfl dX3_pair_0 rfl ?_
  rcases Classical.em (x < 0 ∨ 100 ≤ x) with q1 | q1
  · refine sw_S (M' := MX3_requireThing) (d' := d - 1) (bc' := 1) (bs' := 6) (as := [_]) dX3_pair_1 w_508 ok_X3_requireThing (m_requireThing_x (Nat.le_refl _) (Nat.le_refl _) q1) (by omega) (Nat.le_of_ble_eq_true rfl) (by omega) (by omega) (dx_x (swx_out rfl ?_)) (fun v h' n' _ z => dx_k z)
    rw [opPair, if_pos q1]
    exact ⟨rfl, rfl, hR, FrC.rf⟩
  refine sw_S (M' := MX3_requireThing) (d' := d - 1) (bc' := 1) (bs' := 6) (as := [_]) dX3_pair_1 w_508 ok_X3_requireThing (m_requireThing_k (Nat.le_refl _) (Nat.le_refl _) q1) (by omega) (Nat.le_of_ble_eq_true rfl) (by omega) (by omega) (fun E h' n' _ z => det_x z) (det_k ?_)
  refine sw_iload_n (pc' := 5) rfl dX3_pair_4 rfl ?_
  rcases Classical.em (y < 0 ∨ 100 ≤ y) with q5 | q5
  · refine sw_S (M' := MX3_requireThing) (d' := d - 1) (bc' := 1) (bs' := 6) (as := [_]) dX3_pair_5 w_508 ok_X3_requireThing (m_requireThing_x (Nat.le_refl _) (Nat.le_refl _) q5) (by omega) (Nat.le_of_ble_eq_true rfl) (by omega) (by omega) (dx_x (swx_out rfl ?_)) (fun v h' n' _ z => dx_k z)
    rw [opPair, if_neg q1, if_pos q5]
    exact ⟨rfl, rfl, hR, FrC.rf⟩
  refine sw_S (M' := MX3_requireThing) (d' := d - 1) (bc' := 1) (bs' := 6) (as := [_]) dX3_pair_5 w_508 ok_X3_requireThing (m_requireThing_k (Nat.le_refl _) (Nat.le_refl _) q5) (by omega) (Nat.le_of_ble_eq_true rfl) (by omega) (by omega) (fun E h' n' _ z => det_x z) (det_k ?_)
  obtain ⟨g1, ga1, gb1⟩ := hR.2.1
  refine sw_aload_n (pc' := 9) rfl dX3_pair_8 rfl ?_
  refine sw_getf (ci := 4) (k := 0) (pc' := 12) rfl dX3_pair_9 (by decide +kernel) w_150 hR.1 rfl ?_
  refine sw_bipush (pc' := 14) (v := 6) rfl dX3_pair_12 (by decide +kernel) ?_
  refine sw_aald (pc' := 15) rfl dX3_pair_14 ga1 (by decide +kernel) (by decide +kernel) (j := 6) rfl (by decide +kernel) (by decide +kernel) (gb1 6 (by decide +kernel)) ?_
  refine sw_astore_n (pc' := 16) (lv' := [(3, _), (0, _), (1, _), (2, _)]) rfl dX3_pair_15 (by decide +kernel) rfl ?_
  refine sw_aload_n (pc' := 17) rfl dX3_pair_16 rfl ?_
  refine sw_getf (ci := 4) (k := 0) (pc' := 20) rfl dX3_pair_17 (by decide +kernel) w_150 hR.1 rfl ?_
  refine sw_bipush (pc' := 22) (v := 7) rfl dX3_pair_20 (by decide +kernel) ?_
  refine sw_aald (pc' := 23) rfl dX3_pair_22 ga1 (by decide +kernel) (by decide +kernel) (j := 7) rfl (by decide +kernel) (by decide +kernel) (gb1 7 (by decide +kernel)) ?_
  refine sw_astore (pc' := 25) (lv' := [(4, _), (3, _), (0, _), (1, _), (2, _)]) rfl dX3_pair_23 (by decide +kernel) rfl ?_
  refine sw_aload_n (pc' := 26) rfl dX3_pair_25 rfl ?_
  refine sw_iload_n (pc' := 27) rfl dX3_pair_26 rfl ?_
  refine sw_V (M' := MX1_firstPlace) (d' := d - 1) (bc' := 0) (bs' := 0) (ci := 2) (as := [_]) dX3_pair_27 w_481 ok_X1_firstPlace (m_firstPlace (hR.sh (k := 6) (by decide +kernel))) (hR.sh (k := 6) (by decide +kernel)).1 rfl (by omega) (Nat.le_of_ble_eq_true rfl) (by omega) (by omega) (fun E h' n' _ z => det_x z) (det_k ?_)
  refine sw_istore (pc' := 32) (lv' := [(5, _), (4, _), (3, _), (0, _), (1, _), (2, _)]) rfl dX3_pair_30 (by decide +kernel) rfl ?_
  refine sw_iload (pc' := 34) rfl dX3_pair_32 rfl ?_
  refine sw_iconst (pc' := 35) (v := (-1)) rfl dX3_pair_34 (by decide +kernel) ?_
  refine sw_icmp_eq (pc' := 38) (tgt := 47) rfl dX3_pair_35 (by decide +kernel) (fun c35 => ?_) (fun c35 => ?_)
  · have hc6 := (hR.sh (k := 6) (by decide +kernel)).2.2.1
    have e1 := opI_n (o := fpN (σ.1 6) x 0 (σ.2.1 6)) (fun j e => by have := fpN_at e; omega) c35
    have e2 : opPair σ x y = (if 12 < nI (σ.2.1 6) + 1 then (xS, σ) else (rI (-1), la2 (la2 σ 6 (prR σ x) x) 7 (prR σ x) y)) := by rw [opPair, if_neg q1, if_neg q5, e1]
    refine sw_aload_n (pc' := 48) rfl dX3_pair_47 rfl ?_
    refine sw_iconst (pc' := 49) (v := 1) rfl dX3_pair_48 (by decide +kernel) ?_
    rcases Classical.em (12 < nI (σ.2.1 6) + 1) with q49 | q49
    · refine sw_S (M' := MX3_requireRoom) (d' := d - 1) (bc' := 1) (bs' := 6) (as := [_, _]) dX3_pair_49 w_411 ok_X3_requireRoom (m_requireRoom_x (hR.sh (k := 6) (by decide +kernel)) (Nat.le_refl _) (Nat.le_refl _) q49) (by omega) (Nat.le_of_ble_eq_true rfl) (by omega) (by omega) (dx_x (swx_out rfl ?_)) (fun v h' n' _ z => dx_k z)
      rw [e2, if_pos q49]
      exact ⟨rfl, rfl, hR, FrC.rf⟩
    refine sw_S (M' := MX3_requireRoom) (d' := d - 1) (bc' := 1) (bs' := 6) (as := [_, _]) dX3_pair_49 w_411 ok_X3_requireRoom (m_requireRoom_k (hR.sh (k := 6) (by decide +kernel)) (Nat.le_refl _) (Nat.le_refl _) q49) (by omega) (Nat.le_of_ble_eq_true rfl) (by omega) (by omega) (fun E h' n' _ z => det_x z) (det_k ?_)
    refine sw_aload_n (pc' := 53) rfl dX3_pair_52 rfl ?_
    refine sw_iload_n (pc' := 54) rfl dX3_pair_53 rfl ?_
    refine sw_V (M' := MX1_risingPlace) (d' := d - 1) (bc' := 0) (bs' := 0) (ci := 2) (as := [_]) dX3_pair_54 w_516 ok_X1_risingPlace (m_risingPlace (hR.sh (k := 6) (by decide +kernel))) (hR.sh (k := 6) (by decide +kernel)).1 rfl (by omega) (Nat.le_of_ble_eq_true rfl) (by omega) (by omega) (fun E h' n' _ z => det_x z) (det_k ?_)
    have hrp := (rpN_at (f := σ.1 6) (x := x) (m := σ.2.1 6) (j := 0)).2
    have hc12 := roomC hc6 q49
    refine sw_istore (pc' := 59) (lv' := [(5, _), (4, _), (3, _), (0, _), (1, _), (2, _)]) rfl dX3_pair_57 (by decide +kernel) rfl ?_
    refine sw_aload_n (pc' := 60) rfl dX3_pair_59 rfl ?_
    refine sw_iload (pc' := 62) rfl dX3_pair_60 rfl ?_
    refine sw_iload_n (pc' := 63) rfl dX3_pair_62 rfl ?_
    refine sw_V (M' := MX1_layAhead) (d' := d - 1) (bc' := 0) (bs' := 0) (ci := 2) (as := [_, _]) dX3_pair_63 w_235 ok_X1_layAhead (m_layAhead (j := prR σ x) (hR.sh (k := 6) (by decide +kernel)) (by unfold prR; omega) hc12) (hR.sh (k := 6) (by decide +kernel)).1 rfl (by omega) (Nat.le_of_ble_eq_true rfl) (by omega) (by omega) (fun E h' n' _ z => shp_x z) (shp_k (fun p63 p63S p63F => ?_))
    have p63R : RC p63 (la2 σ 6 (prR σ x) x) := hR.sU (by decide +kernel) p63S p63F
    have p63C : FrC h p63 n := p63F.c (by decide +kernel)
    refine sw_pop (pc' := 67) rfl dX3_pair_66 rfl ?_
    have hc7 : (la2 σ 6 (prR σ x) x).2.1 7 = σ.2.1 7 := show up σ.2.1 6 (σ.2.1 6 + 1) 7 = σ.2.1 7 from up_n (by decide +kernel)
    refine sw_aload (pc' := 69) rfl dX3_pair_67 rfl ?_
    refine sw_iload (pc' := 71) rfl dX3_pair_69 rfl ?_
    refine sw_iload_n (pc' := 72) rfl dX3_pair_71 rfl ?_
    refine sw_V (M' := MX1_layAhead) (d' := d - 1) (bc' := 0) (bs' := 0) (ci := 2) (as := [_, _]) dX3_pair_72 w_235 ok_X1_layAhead (m_layAhead (j := prR σ x) (p63R.sh (k := 7) (by decide +kernel)) (by rw [hc7]; unfold prR; omega) (by rw [hc7]; omega)) (p63R.sh (k := 7) (by decide +kernel)).1 rfl (by omega) (Nat.le_of_ble_eq_true rfl) (by omega) (by omega) (fun E h' n' _ z => shp_x z) (shp_k (fun p72 p72S p72F => ?_))
    have p72R : RC p72 (la2 (la2 σ 6 (prR σ x) x) 7 (prR σ x) y) := p63R.sU (by decide +kernel) p72S p72F
    have p72C : FrC h p72 n := p63C.tr (p72F.c (by decide +kernel)) (Nat.le_refl _)
    refine sw_pop (pc' := 76) rfl dX3_pair_75 rfl ?_
    refine sw_iconst (pc' := 77) (v := (-1)) rfl dX3_pair_76 (by decide +kernel) ?_
    refine sw_ret (v := some _) ⟨dX3_pair_77, _, rfl, rfl⟩ ?_
    rw [e2, if_neg q49]
    exact ⟨rfl, rfl, p72R, p72C⟩
  · have e1 : ∃ p, fpN (σ.1 6) x 0 (σ.2.1 6) = some p := by
      cases e : fpN (σ.1 6) x 0 (σ.2.1 6) with
      | none => rw [e] at c35; exact absurd rfl c35
      | some p => exact ⟨p, rfl⟩
    obtain ⟨p, e1⟩ := e1
    have hp := (fpN_at e1).2.1
    rw [show opI (fpN (σ.1 6) x 0 (σ.2.1 6)) = nI p from by rw [e1]; rfl]
    refine sw_aload (pc' := 40) rfl dX3_pair_38 rfl ?_
    refine sw_iload (pc' := 42) rfl dX3_pair_40 rfl ?_
    refine sw_iload_n (pc' := 43) rfl dX3_pair_42 rfl ?_
    refine sw_V (M' := MX1_exchange) (d' := d - 1) (bc' := 0) (bs' := 0) (ci := 2) (as := [_, _]) dX3_pair_43 w_512 ok_X1_exchange (m_exchange (j := p) (hR.sh (k := 7) (by decide +kernel)) (by omega)) (hR.sh (k := 7) (by decide +kernel)).1 rfl (by omega) (Nat.le_of_ble_eq_true rfl) (by omega) (by omega) (fun E h' n' _ z => shp_x z) (shp_k (fun p43 p43S p43F => ?_))
    have p43R : RC p43 (sU σ 7 (up (σ.1 7) p y) (σ.2.1 7) (σ.2.2.1 7) (σ.2.2.2.1 7)) := hR.sU (by decide +kernel) p43S p43F
    have p43C : FrC h p43 n := p43F.c (by decide +kernel)
    refine sw_ret (v := some _) ⟨dX3_pair_46, _, rfl, rfl⟩ ?_
    rw [opPair, if_neg q1, if_neg q5, e1]
    exact ⟨rfl, rfl, p43R, p43C⟩
theorem m_listAt_x {h : AH} {σ : CS} {d bc bs n : Nat} {x : Int32} (hR : RC h σ) (h1 : 2 ≤ bc) (h2 : 12 ≤ bs) (hd : 1 ≤ d) (q0 : x < 8) : SM SR0 MX3_listAt d bc bs [.ref 100, .int x] h n (Det xI h n) := by
  refine sm_of pn_Overwalks rfl (Nat.le_of_ble_eq_true rfl) ?_
  refine sw_iload_n (pc' := 1) rfl dX3_listAt_0 rfl ?_
  refine sw_bipush (pc' := 3) (v := 8) rfl dX3_listAt_1 (by decide +kernel) ?_
  refine sw_icmp_ge (pc' := 6) (tgt := 17) rfl dX3_listAt_3 (by decide +kernel) (fun c3 => ?_) (fun c3 => ?_)
  · exact absurd c3 (Int32.not_le.mpr q0)
  · refine sw_throwW (names := ["java/lang/RuntimeException", "java/lang/Exception"]) rfl dX3_listAt_6 dX3_listAt_9 dX3_listAt_10 dX3_listAt_13 dX3_listAt_16 (by decide +kernel) (by decide +kernel) (by decide +kernel) w_361 w_49 (SRm 17 rfl) th_Overwalks_339 (by omega) (by omega) ?_
    exact ⟨rfl, rfl, rfl⟩
theorem m_listAt_y {h : AH} {σ : CS} {d bc bs n : Nat} {x : Int32} (hR : RC h σ) (h1 : 2 ≤ bc) (h2 : 12 ≤ bs) (hd : 1 ≤ d) (q0 : ¬ x < 8) (q : x < 0 ∨ nI 11 ≤ x) : SM SR0 MX3_listAt d bc bs [.ref 100, .int x] h n (Det xI h n) := by
  refine sm_of pn_Overwalks rfl (Nat.le_of_ble_eq_true rfl) ?_
  refine sw_iload_n (pc' := 1) rfl dX3_listAt_0 rfl ?_
  refine sw_bipush (pc' := 3) (v := 8) rfl dX3_listAt_1 (by decide +kernel) ?_
  refine sw_icmp_ge (pc' := 6) (tgt := 17) rfl dX3_listAt_3 (by decide +kernel) (fun c3 => ?_) (fun c3 => ?_)
  · refine sw_aload_n (pc' := 18) rfl dX3_listAt_17 rfl ?_
    refine sw_iload_n (pc' := 19) rfl dX3_listAt_18 rfl ?_
    refine sw_V (M' := MX3_shelfAt) (d' := d - 1) (bc' := 1) (bs' := 6) (ci := 4) (as := [_]) dX3_listAt_19 w_402 ok_X3_shelfAt (m_shelfAt_x hR (Nat.le_refl _) (Nat.le_refl _) q) hR.1 rfl (by omega) (Nat.le_of_ble_eq_true rfl) (by omega) (by omega) (dx_x (swx_out rfl ?_)) (fun v h' n' _ z => dx_k z)
    exact ⟨rfl, rfl, rfl⟩
  · exact absurd (Int32.not_lt.mp q0) c3
theorem m_listAt_k {h : AH} {σ : CS} {d bc bs n : Nat} {k : Nat} (hR : RC h σ) (h1 : 2 ≤ bc) (h2 : 12 ≤ bs) (hd : 1 ≤ d) (q0 : ¬ nI k < 8) (hk : k < 11) : SM SR0 MX3_listAt d bc bs [.ref 100, .int (nI k)] h n (Det (.inl (some (.ref (102 + 2 * k)))) h n) := by
  refine sm_of pn_Overwalks rfl (Nat.le_of_ble_eq_true rfl) ?_
  refine sw_iload_n (pc' := 1) rfl dX3_listAt_0 rfl ?_
  refine sw_bipush (pc' := 3) (v := 8) rfl dX3_listAt_1 (by decide +kernel) ?_
  refine sw_icmp_ge (pc' := 6) (tgt := 17) rfl dX3_listAt_3 (by decide +kernel) (fun c3 => ?_) (fun c3 => ?_)
  · refine sw_aload_n (pc' := 18) rfl dX3_listAt_17 rfl ?_
    refine sw_iload_n (pc' := 19) rfl dX3_listAt_18 rfl ?_
    refine sw_V (M' := MX3_shelfAt) (d' := d - 1) (bc' := 1) (bs' := 6) (ci := 4) (as := [_]) dX3_listAt_19 w_402 ok_X3_shelfAt (m_shelfAt_k hR (Nat.le_refl _) (Nat.le_refl _) hk) hR.1 rfl (by omega) (Nat.le_of_ble_eq_true rfl) (by omega) (by omega) (fun E h' n' _ z => det_x z) (det_k ?_)
    refine sw_ret (v := some _) ⟨dX3_listAt_22, _, rfl, Or.inl ⟨_, rfl⟩⟩ ?_
    exact ⟨rfl, rfl, rfl⟩
  · exact absurd (Int32.not_lt.mp q0) c3
theorem m_keepC {h : AH} {σ : CS} {d bc bs n k j m : Nat} (hR : RC h σ) (hk : k < 11) (hj : j < 11) (hm : m ≤ σ.2.1 j) (hkj : k = j → m = 0) (hd : 1 ≤ d) : SM SR0 MX1_becomeListOf d bc bs [.ref (102 + 2 * k), .ref (102 + 2 * j), .int (nI m)] h n (ShP h (102 + 2 * k) (kdO k) none (blN (σ.1 k) (σ.1 j) m (σ.2.1 j - m)) (σ.2.1 j - m) (σ.2.2.1 k + 1) (σ.2.2.2.1 k) n) := by
  by_cases e : k = j
  · subst e
    have hm0 := hkj rfl
    subst hm0
    rw [blN_self]
    exact m_becomeListOfS (hR.sh hk) hd
  · exact m_becomeListOf (hR.sh hk) (hR.sh hj) hd (by omega) hm
theorem m_keep {h : AH} {σ : CS} {d bc bs n : Nat} {a b : Int32} (hR : RC h σ) (hd : 6 ≤ d) (hb1 : 20 ≤ bc) (hb2 : 200 ≤ bs) : SM SR0 MX3_keep d bc bs [.ref 100, .int a, .int b] h n (CP h n (opKeep σ a b)) := by
  refine sm_of pn_Overwalks rfl (Nat.le_of_ble_eq_true rfl) ?_
  refine sw_aload_n (pc' := 1) rfl dX3_keep_0 rfl ?_
  refine sw_iload_n (pc' := 2) rfl dX3_keep_1 rfl ?_
  rcases Classical.em (a < 8) with q2 | q2
  · refine sw_V (M' := MX3_listAt) (d' := d - 1) (bc' := 2) (bs' := 12) (ci := 4) (as := [_]) dX3_keep_2 w_959 ok_X3_listAt (m_listAt_x hR (Nat.le_refl _) (Nat.le_refl _) (by omega) q2) hR.1 rfl (by omega) (Nat.le_of_ble_eq_true rfl) (by omega) (by omega) (dx_x (swx_out rfl ?_)) (fun v h' n' _ z => dx_k z)
    rw [opKeep, onLi_x q2]
    exact ⟨rfl, rfl, hR, FrC.rf⟩
  rcases idxN 11 (by decide +kernel) a with q2b | ⟨k2, hk2, q2b⟩
  · refine sw_V (M' := MX3_listAt) (d' := d - 1) (bc' := 2) (bs' := 12) (ci := 4) (as := [_]) dX3_keep_2 w_959 ok_X3_listAt (m_listAt_y hR (Nat.le_refl _) (Nat.le_refl _) (by omega) q2 q2b) hR.1 rfl (by omega) (Nat.le_of_ble_eq_true rfl) (by omega) (by omega) (dx_x (swx_out rfl ?_)) (fun v h' n' _ z => dx_k z)
    rw [opKeep, onLi_y q2 q2b]
    exact ⟨rfl, rfl, hR, FrC.rf⟩
  subst q2b
  refine sw_V (M' := MX3_listAt) (d' := d - 1) (bc' := 2) (bs' := 12) (ci := 4) (as := [_]) dX3_keep_2 w_959 ok_X3_listAt (m_listAt_k hR (Nat.le_refl _) (Nat.le_refl _) (by omega) q2 hk2) hR.1 rfl (by omega) (Nat.le_of_ble_eq_true rfl) (by omega) (by omega) (fun E h' n' _ z => det_x z) (det_k ?_)
  refine sw_astore_n (pc' := 6) (lv' := [(3, _), (0, _), (1, _), (2, _)]) rfl dX3_keep_5 (by decide +kernel) rfl ?_
  refine sw_aload_n (pc' := 7) rfl dX3_keep_6 rfl ?_
  refine sw_aload_n (pc' := 8) rfl dX3_keep_7 rfl ?_
  refine sw_iload_n (pc' := 9) rfl dX3_keep_8 rfl ?_
  rcases idxN 11 (by decide +kernel) b with q9 | ⟨k9, hk9, q9⟩
  · refine sw_V (M' := MX3_shelfAt) (d' := d - 1) (bc' := 1) (bs' := 6) (ci := 4) (as := [_]) dX3_keep_9 w_402 ok_X3_shelfAt (m_shelfAt_x hR (Nat.le_refl _) (Nat.le_refl _) q9) hR.1 rfl (by omega) (Nat.le_of_ble_eq_true rfl) (by omega) (by omega) (dx_x (swx_out rfl ?_)) (fun v h' n' _ z => dx_k z)
    rw [opKeep, onLi_k q2 hk2, onSh_x q9]
    exact ⟨rfl, rfl, hR, FrC.rf⟩
  subst q9
  refine sw_V (M' := MX3_shelfAt) (d' := d - 1) (bc' := 1) (bs' := 6) (ci := 4) (as := [_]) dX3_keep_9 w_402 ok_X3_shelfAt (m_shelfAt_k hR (Nat.le_refl _) (Nat.le_refl _) hk9) hR.1 rfl (by omega) (Nat.le_of_ble_eq_true rfl) (by omega) (by omega) (fun E h' n' _ z => det_x z) (det_k ?_)
  refine sw_iconst (pc' := 13) (v := 0) rfl dX3_keep_12 (by decide +kernel) ?_
  refine sw_V (M' := MX1_becomeListOf) (d' := d - 1) (bc' := 0) (bs' := 0) (ci := 2) (as := [_, _]) dX3_keep_13 w_216 ok_X1_becomeListOf (m_keepC hR hk2 hk9 (Nat.zero_le _) (fun _ => rfl) (by omega)) (hR.sh (k := k2) hk2).1 rfl (by omega) (Nat.le_of_ble_eq_true rfl) (by omega) (by omega) (fun E h' n' _ z => shp_x z) (shp_k (fun p13 p13S p13F => ?_))
  have p13R : RC p13 (kpU σ k2 k9 0) := hR.sU hk2 p13S p13F
  have p13C : FrC h p13 n := p13F.c hk2
  refine sw_aload_n (pc' := 17) rfl dX3_keep_16 rfl ?_
  refine sw_getf (ci := 2) (k := 2) (pc' := 20) rfl dX3_keep_17 (by decide +kernel) w_84 (p13R.sh hk2).1 rfl ?_
  refine sw_ret (v := some _) ⟨dX3_keep_20, _, rfl, rfl⟩ ?_
  rw [opKeep, onLi_k q2 hk2, onSh_k hk9]
  exact ⟨by rw [show (kpU σ k2 k9 0).2.1 k2 = σ.2.1 k9 from up_s]; rfl, rfl, p13R, p13C⟩
end
section
/-! 21.ops -/
/-! calls with loops -/
def cdN (f : Nat → Int32) : Nat → Nat → Int32 → Int32
  | _, 0, a => a
  | j, m + 1, a => cdN f (j + 1) m (a * 31 + if f j = 100 then 0 else f j)
def opCode (σ : CS) (a : Int32) : ARes × CS := onSh a σ (fun k => (rI (cdN (σ.1 k) 0 (σ.2.1 k) 1), σ))
/-- are the m things from place j on the same -/
def alB (f g : Nat → Int32) : Nat → Nat → Bool
  | _, 0 => true
  | j, m + 1 => decide (f j = g j) && alB f g (j + 1) m
def hsB (f g : Nat → Int32) (c e : Nat) : Bool := decide (c = e) && alB f g 0 c
def opAreAlike (σ : CS) (a b : Int32) : ARes × CS := onSh a σ (fun k => onSh b σ (fun j => (rI (bI (hsB (σ.1 k) (σ.1 j) (σ.2.1 k) (σ.2.1 j))), σ)))
/-- PUT m times -/
def ldM (k : Nat) (x : Int32) : Nat → CS → CS
  | 0, σ => σ
  | m + 1, σ => ldM k x m (ldU σ k x)
theorem ldU_c {σ : CS} {k : Nat} {x : Int32} : (ldU σ k x).2.1 k ≤ σ.2.1 k + 1 := by
  unfold ldU
  split
  · show up σ.2.1 k (σ.2.1 k + 1) k ≤ _
    rw [up_s]
    exact Nat.le_refl _
  · exact Nat.le_succ _
def opCopies (σ : CS) (a x m : Int32) : ARes × CS := onRw a σ (fun k => if x < 0 ∨ 100 < x then (xA, σ) else if m < 0 ∨ 12 < m then (xA, σ) else if 12 < nI (σ.2.1 k) + m then (xS, σ) else (rI (nI ((ldM k x m.toNatClampNeg σ).2.1 k)), ldM k x m.toNatClampNeg σ))
def fiN (f : Nat → Int32) (x : Int32) (j : Nat) : Nat → Int32 := fun q => if q < j then x else f q
theorem fiN_0 {f : Nat → Int32} {x : Int32} : fiN f x 0 = f := by
  funext q
  exact if_neg (by omega)
theorem fiN_s {f : Nat → Int32} {x : Int32} {j : Nat} : up (fiN f x j) j x = fiN f x (j + 1) := by
  funext q
  by_cases e : q = j
  · subst e
    rw [up_s]
    exact (if_pos (by omega)).symm
  · rw [up_n e]
    unfold fiN
    by_cases g : q < j
    · rw [if_pos g, if_pos (by omega)]
    · rw [if_neg g, if_neg (by omega)]
def opFill (σ : CS) (a x : Int32) : ARes × CS := onRw a σ (fun k => if x < 0 ∨ 100 < x then (xA, σ) else (rI (nI (σ.2.1 k)), sU σ k (fiN (σ.1 k) x (σ.2.1 k)) (σ.2.1 k) (σ.2.2.1 k) (σ.2.2.2.1 k + 1)))
theorem nI_room {c m : Nat} (hc : c ≤ 12) (hm : m ≤ 12) (q : ¬ 12 < nI c + nI m) : c + m ≤ 12 := by
  rw [nI_add] at q
  exact (nI_leI (b := 12) (by omega) (by decide +kernel)).mp (Int32.not_lt.mp q)
theorem l_haveTheSame {h : AH} {b b2 kd kd2 c c2 d bc bs n : Nat} {f g : Nat → Int32} {s t s2 t2 : Int32} (hS : ShF h b kd f c s t) (gS : ShF h b2 kd2 g c2 s2 t2) (hd : 1 ≤ d) (he : c = c2) (m : Nat) : ∀ j, j + m = c → SW SR0 MX3_haveTheSame d bc bs 15 [(2, .int (nI j)), (0, .ref b), (1, .ref b2)] [] h n (Det (rI (bI (alB f g j m))) h n) := by
  have hc := hS.2.2.1
  induction m with
  | zero =>
    intro j hj
    have hjc : j = c := by omega
    subst hjc
    refine sw_iload_n (pc' := 16) rfl dX3_haveTheSame_15 rfl ?_
    refine sw_aload_n (pc' := 17) rfl dX3_haveTheSame_16 rfl ?_
    refine sw_getf (ci := 2) (k := 2) (pc' := 20) rfl dX3_haveTheSame_17 (by decide +kernel) w_84 hS.1 rfl ?_
    refine sw_icmp_ge (pc' := 23) (tgt := 44) rfl dX3_haveTheSame_20 (by decide +kernel) (fun c20 => ?_) (fun c20 => ?_)
    · refine sw_iconst (pc' := 45) (v := 1) rfl dX3_haveTheSame_44 (by decide +kernel) ?_
      refine sw_ret (v := some _) ⟨dX3_haveTheSame_45, _, rfl, rfl⟩ ?_
      exact ⟨rfl, rfl, rfl⟩
    · exact absurd (Int32.le_refl _) c20
  | succ m ih =>
    intro j hj
    have e1 := taI_in (f := f) (c := c) (j := j) (by omega) hc
    have e2 := taI_in (f := g) (c := c2) (j := j) (by omega) gS.2.2.1
    refine sw_iload_n (pc' := 16) rfl dX3_haveTheSame_15 rfl ?_
    refine sw_aload_n (pc' := 17) rfl dX3_haveTheSame_16 rfl ?_
    refine sw_getf (ci := 2) (k := 2) (pc' := 20) rfl dX3_haveTheSame_17 (by decide +kernel) w_84 hS.1 rfl ?_
    refine sw_icmp_ge (pc' := 23) (tgt := 44) rfl dX3_haveTheSame_20 (by decide +kernel) (fun c20 => ?_) (fun c20 => ?_)
    · exact absurd c20 (nI_ge (by omega) (by omega))
    · refine sw_aload_n (pc' := 24) rfl dX3_haveTheSame_23 rfl ?_
      refine sw_iload_n (pc' := 25) rfl dX3_haveTheSame_24 rfl ?_
      refine sw_V (M' := MX1_thingAt) (d' := d - 1) (bc' := 0) (bs' := 0) (ci := 2) (as := [_]) dX3_haveTheSame_25 w_230 ok_X1_thingAt (m_thingAt hS) hS.1 rfl (by omega) (Nat.le_of_ble_eq_true rfl) (Nat.zero_le _) (Nat.zero_le _) (fun E h' n' _ z => det_x z) (det_k ?_)
      refine sw_aload_n (pc' := 29) rfl dX3_haveTheSame_28 rfl ?_
      refine sw_iload_n (pc' := 30) rfl dX3_haveTheSame_29 rfl ?_
      refine sw_V (M' := MX1_thingAt) (d' := d - 1) (bc' := 0) (bs' := 0) (ci := 2) (as := [_]) dX3_haveTheSame_30 w_230 ok_X1_thingAt (m_thingAt gS) gS.1 rfl (by omega) (Nat.le_of_ble_eq_true rfl) (Nat.zero_le _) (Nat.zero_le _) (fun E h' n' _ z => det_x z) (det_k ?_)
      refine sw_icmp_eq (pc' := 36) (tgt := 38) rfl dX3_haveTheSame_33 (by decide +kernel) (fun c33 => ?_) (fun c33 => ?_)
      · refine sw_iinc (pc' := 41) (lv' := [(2, _), (0, _), (1, _)]) (v := nI (j + 1)) rfl dX3_haveTheSame_38 rfl (nI_succ j).symm (by decide +kernel) rfl ?_
        refine sw_goto (tgt := 15) dX3_haveTheSame_41 (by decide +kernel) ?_
        rw [e1, e2] at c33
        rw [alB, decide_eq_true c33, Bool.true_and]
        exact ih (j + 1) (by omega)
      · refine sw_iconst (pc' := 37) (v := 0) rfl dX3_haveTheSame_36 (by decide +kernel) ?_
        refine sw_ret (v := some _) ⟨dX3_haveTheSame_37, _, rfl, rfl⟩ ?_
        rw [e1, e2] at c33
        exact ⟨by rw [alB, decide_eq_false c33]; rfl, rfl, rfl⟩
theorem m_haveTheSame {h : AH} {b b2 kd kd2 c c2 d bc bs n : Nat} {f g : Nat → Int32} {s t s2 t2 : Int32} (hS : ShF h b kd f c s t) (gS : ShF h b2 kd2 g c2 s2 t2) (hd : 1 ≤ d) : SM SR0 MX3_haveTheSame d bc bs [.ref b, .ref b2] h n (Det (rI (bI (hsB f g c c2))) h n) := by
  have hc := hS.2.2.1
  have hc2 := gS.2.2.1
  refine sm_of pn_Overwalks rfl (Nat.le_of_ble_eq_true rfl) ?_
  refine sw_aload_n (pc' := 1) rfl dX3_haveTheSame_0 rfl ?_
  refine sw_getf (ci := 2) (k := 2) (pc' := 4) rfl dX3_haveTheSame_1 (by decide +kernel) w_84 hS.1 rfl ?_
  refine sw_aload_n (pc' := 5) rfl dX3_haveTheSame_4 rfl ?_
  refine sw_getf (ci := 2) (k := 2) (pc' := 8) rfl dX3_haveTheSame_5 (by decide +kernel) w_84 gS.1 rfl ?_
  refine sw_icmp_eq (pc' := 11) (tgt := 13) rfl dX3_haveTheSame_8 (by decide +kernel) (fun c8 => ?_) (fun c8 => ?_)
  · refine sw_iconst (pc' := 14) (v := 0) rfl dX3_haveTheSame_13 (by decide +kernel) ?_
    refine sw_istore_n (pc' := 15) (lv' := [(2, _), (0, _), (1, _)]) rfl dX3_haveTheSame_14 (by decide +kernel) rfl ?_
    have he : c = c2 := (nI_eq (by omega) (by omega)).mp c8
    rw [hsB, decide_eq_true he, Bool.true_and]
    exact l_haveTheSame hS gS hd he c 0 (by omega)
  · refine sw_iconst (pc' := 12) (v := 0) rfl dX3_haveTheSame_11 (by decide +kernel) ?_
    refine sw_ret (v := some _) ⟨dX3_haveTheSame_12, _, rfl, rfl⟩ ?_
    exact ⟨by rw [hsB, decide_eq_false (fun e => c8 (congrArg nI e))]; rfl, rfl, rfl⟩
theorem m_areAlike {h : AH} {σ : CS} {d bc bs n : Nat} {a b : Int32} (hR : RC h σ) (hd : 6 ≤ d) (hb1 : 20 ≤ bc) (hb2 : 200 ≤ bs) : SM SR0 MX3_areAlike d bc bs [.ref 100, .int a, .int b] h n (CP h n (opAreAlike σ a b)) := by
  refine sm_of pn_Overwalks rfl (Nat.le_of_ble_eq_true rfl) ?_
  refine sw_aload_n (pc' := 1) rfl dX3_areAlike_0 rfl ?_
  refine sw_iload_n (pc' := 2) rfl dX3_areAlike_1 rfl ?_
  rcases idxN 11 (by decide +kernel) a with q2 | ⟨k2, hk2, q2⟩
  · refine sw_V (M' := MX3_shelfAt) (d' := d - 1) (bc' := 1) (bs' := 6) (ci := 4) (as := [_]) dX3_areAlike_2 w_402 ok_X3_shelfAt (m_shelfAt_x hR (Nat.le_refl _) (Nat.le_refl _) q2) hR.1 rfl (by omega) (Nat.le_of_ble_eq_true rfl) (by omega) (by omega) (dx_x (swx_out rfl ?_)) (fun v h' n' _ z => dx_k z)
    rw [opAreAlike, onSh_x q2]
    exact ⟨rfl, rfl, hR, FrC.rf⟩
  subst q2
  refine sw_V (M' := MX3_shelfAt) (d' := d - 1) (bc' := 1) (bs' := 6) (ci := 4) (as := [_]) dX3_areAlike_2 w_402 ok_X3_shelfAt (m_shelfAt_k hR (Nat.le_refl _) (Nat.le_refl _) hk2) hR.1 rfl (by omega) (Nat.le_of_ble_eq_true rfl) (by omega) (by omega) (fun E h' n' _ z => det_x z) (det_k ?_)
  refine sw_astore_n (pc' := 6) (lv' := [(3, _), (0, _), (1, _), (2, _)]) rfl dX3_areAlike_5 (by decide +kernel) rfl ?_
  refine sw_aload_n (pc' := 7) rfl dX3_areAlike_6 rfl ?_
  refine sw_iload_n (pc' := 8) rfl dX3_areAlike_7 rfl ?_
  rcases idxN 11 (by decide +kernel) b with q8 | ⟨k8, hk8, q8⟩
  · refine sw_V (M' := MX3_shelfAt) (d' := d - 1) (bc' := 1) (bs' := 6) (ci := 4) (as := [_]) dX3_areAlike_8 w_402 ok_X3_shelfAt (m_shelfAt_x hR (Nat.le_refl _) (Nat.le_refl _) q8) hR.1 rfl (by omega) (Nat.le_of_ble_eq_true rfl) (by omega) (by omega) (dx_x (swx_out rfl ?_)) (fun v h' n' _ z => dx_k z)
    rw [opAreAlike, onSh_k hk2, onSh_x q8]
    exact ⟨rfl, rfl, hR, FrC.rf⟩
  subst q8
  refine sw_V (M' := MX3_shelfAt) (d' := d - 1) (bc' := 1) (bs' := 6) (ci := 4) (as := [_]) dX3_areAlike_8 w_402 ok_X3_shelfAt (m_shelfAt_k hR (Nat.le_refl _) (Nat.le_refl _) hk8) hR.1 rfl (by omega) (Nat.le_of_ble_eq_true rfl) (by omega) (by omega) (fun E h' n' _ z => det_x z) (det_k ?_)
  refine sw_astore (pc' := 13) (lv' := [(4, _), (3, _), (0, _), (1, _), (2, _)]) rfl dX3_areAlike_11 (by decide +kernel) rfl ?_
  refine sw_aload_n (pc' := 14) rfl dX3_areAlike_13 rfl ?_
  refine sw_aload (pc' := 16) rfl dX3_areAlike_14 rfl ?_
  refine sw_S (M' := MX3_haveTheSame) (d' := d - 1) (bc' := 0) (bs' := 0) (as := [_, _]) dX3_areAlike_16 w_227 ok_X3_haveTheSame (m_haveTheSame (hR.sh hk2) (hR.sh hk8) (by omega)) (by omega) (Nat.le_of_ble_eq_true rfl) (Nat.zero_le _) (Nat.zero_le _) (fun E h' n' _ z => det_x z) (det_k ?_)
  refine sw_ret (v := some _) ⟨dX3_areAlike_19, _, rfl, bI_i⟩ ?_
  rw [opAreAlike, onSh_k hk2, onSh_k hk8]
  exact ⟨rfl, rfl, hR, FrC.rf⟩
theorem l_code {h : AH} {σ : CS} {d bc bs n k : Nat} {a : Int32} (hR : RC h σ) (hk : k < 11) (hd : 1 ≤ d) (m : Nat) : ∀ (j : Nat) (v : Int32), j + m = σ.2.1 k → SW SR0 MX3_code d bc bs 11 [(4, .int (nI j)), (3, .int v), (2, .ref (102 + 2 * k)), (0, .ref 100), (1, .int a)] [] h n (CP h n (rI (cdN (σ.1 k) j m v), σ)) := by
  have hc := (hR.sh hk).2.2.1
  induction m with
  | zero =>
    intro j v hj
    have hjc : σ.2.1 k = j := by omega
    refine sw_iload (pc' := 13) rfl dX3_code_11 rfl ?_
    refine sw_aload_n (pc' := 14) rfl dX3_code_13 rfl ?_
    refine sw_getf (ci := 2) (k := 2) (pc' := 17) rfl dX3_code_14 (by decide +kernel) w_84 (hR.sh hk).1 rfl ?_
    refine sw_icmp_ge (pc' := 20) (tgt := 53) rfl dX3_code_17 (by decide +kernel) (fun c17 => ?_) (fun c17 => ?_)
    · refine sw_iload_n (pc' := 54) rfl dX3_code_53 rfl ?_
      refine sw_ret (v := some _) ⟨dX3_code_54, _, rfl, rfl⟩ ?_
      exact ⟨rfl, rfl, hR, FrC.rf⟩
    · exact absurd (by rw [hjc]; exact Int32.le_refl _) c17
  | succ m ih =>
    intro j v hj
    have e1 := taI_in (f := σ.1 k) (c := σ.2.1 k) (j := j) (by omega) hc
    refine sw_iload (pc' := 13) rfl dX3_code_11 rfl ?_
    refine sw_aload_n (pc' := 14) rfl dX3_code_13 rfl ?_
    refine sw_getf (ci := 2) (k := 2) (pc' := 17) rfl dX3_code_14 (by decide +kernel) w_84 (hR.sh hk).1 rfl ?_
    refine sw_icmp_ge (pc' := 20) (tgt := 53) rfl dX3_code_17 (by decide +kernel) (fun c17 => ?_) (fun c17 => ?_)
    · exact absurd c17 (nI_ge (by omega) (by omega))
    · refine sw_aload_n (pc' := 21) rfl dX3_code_20 rfl ?_
      refine sw_iload (pc' := 23) rfl dX3_code_21 rfl ?_
      refine sw_V (M' := MX1_thingAt) (d' := d - 1) (bc' := 0) (bs' := 0) (ci := 2) (as := [_]) dX3_code_23 w_230 ok_X1_thingAt (m_thingAt (hR.sh hk)) (hR.sh hk).1 rfl (by omega) (Nat.le_of_ble_eq_true rfl) (Nat.zero_le _) (Nat.zero_le _) (fun E h' n' _ z => det_x z) (det_k ?_)
      refine sw_istore (pc' := 28) (lv' := [(5, _), (4, _), (3, _), (2, _), (0, _), (1, _)]) rfl dX3_code_26 (by decide +kernel) rfl ?_
      refine sw_iload_n (pc' := 29) rfl dX3_code_28 rfl ?_
      refine sw_bipush (pc' := 31) (v := 31) rfl dX3_code_29 (by decide +kernel) ?_
      refine sw_imul (pc' := 32) rfl dX3_code_31 ?_
      refine sw_iload (pc' := 34) rfl dX3_code_32 rfl ?_
      refine sw_bipush (pc' := 36) (v := 100) rfl dX3_code_34 (by decide +kernel) ?_
      refine sw_icmp_ne (pc' := 39) (tgt := 43) rfl dX3_code_36 (by decide +kernel) (fun c36 => ?_) (fun c36 => ?_)
      · refine sw_iload (pc' := 45) rfl dX3_code_43 rfl ?_
        refine sw_iadd (pc' := 46) rfl dX3_code_45 ?_
        refine sw_istore_n (pc' := 47) (lv' := [(3, _), (5, _), (4, _), (2, _), (0, _), (1, _)]) rfl dX3_code_46 (by decide +kernel) rfl ?_
        refine sw_iinc (pc' := 50) (lv' := [(4, _), (3, _), (5, _), (2, _), (0, _), (1, _)]) (v := nI (j + 1)) rfl dX3_code_47 rfl (nI_succ j).symm (by decide +kernel) rfl ?_
        refine sw_goto (tgt := 11) dX3_code_50 (by decide +kernel) ?_
        rw [e1] at c36
        rw [cdN, if_neg c36]
        rw [e1]
        refine sw_loc (lv' := [(4, .int (nI (j + 1))), (3, .int (v * 31 + σ.1 k j)), (2, .ref (102 + 2 * k)), (0, .ref 100), (1, .int a)]) ?_ (by intro q hq; simp only [List.mem_cons, List.not_mem_nil, or_false] at hq; rcases hq with rfl | rfl | rfl | rfl | rfl <;> simp)
        exact ih (j + 1) _ (by omega)
      · refine sw_iconst (pc' := 40) (v := 0) rfl dX3_code_39 (by decide +kernel) ?_
        refine sw_goto (tgt := 45) dX3_code_40 (by decide +kernel) ?_
        refine sw_iadd (pc' := 46) rfl dX3_code_45 ?_
        refine sw_istore_n (pc' := 47) (lv' := [(3, _), (5, _), (4, _), (2, _), (0, _), (1, _)]) rfl dX3_code_46 (by decide +kernel) rfl ?_
        refine sw_iinc (pc' := 50) (lv' := [(4, _), (3, _), (5, _), (2, _), (0, _), (1, _)]) (v := nI (j + 1)) rfl dX3_code_47 rfl (nI_succ j).symm (by decide +kernel) rfl ?_
        refine sw_goto (tgt := 11) dX3_code_50 (by decide +kernel) ?_
        rw [e1] at c36
        rw [cdN, if_pos c36]
        refine sw_loc (lv' := [(4, .int (nI (j + 1))), (3, .int (v * 31 + 0)), (2, .ref (102 + 2 * k)), (0, .ref 100), (1, .int a)]) ?_ (by intro q hq; simp only [List.mem_cons, List.not_mem_nil, or_false] at hq; rcases hq with rfl | rfl | rfl | rfl | rfl <;> simp)
        exact ih (j + 1) _ (by omega)
theorem m_code {h : AH} {σ : CS} {d bc bs n : Nat} {a : Int32} (hR : RC h σ) (hd : 6 ≤ d) (hb1 : 20 ≤ bc) (hb2 : 200 ≤ bs) : SM SR0 MX3_code d bc bs [.ref 100, .int a] h n (CP h n (opCode σ a)) := by
  refine sm_of pn_Overwalks rfl (Nat.le_of_ble_eq_true rfl) ?_
  refine sw_aload_n (pc' := 1) rfl dX3_code_0 rfl ?_
  refine sw_iload_n (pc' := 2) rfl dX3_code_1 rfl ?_
  rcases idxN 11 (by decide +kernel) a with q2 | ⟨k2, hk2, q2⟩
  · refine sw_V (M' := MX3_shelfAt) (d' := d - 1) (bc' := 1) (bs' := 6) (ci := 4) (as := [_]) dX3_code_2 w_402 ok_X3_shelfAt (m_shelfAt_x hR (Nat.le_refl _) (Nat.le_refl _) q2) hR.1 rfl (by omega) (Nat.le_of_ble_eq_true rfl) (by omega) (by omega) (dx_x (swx_out rfl ?_)) (fun v h' n' _ z => dx_k z)
    rw [opCode, onSh_x q2]
    exact ⟨rfl, rfl, hR, FrC.rf⟩
  subst q2
  refine sw_V (M' := MX3_shelfAt) (d' := d - 1) (bc' := 1) (bs' := 6) (ci := 4) (as := [_]) dX3_code_2 w_402 ok_X3_shelfAt (m_shelfAt_k hR (Nat.le_refl _) (Nat.le_refl _) hk2) hR.1 rfl (by omega) (Nat.le_of_ble_eq_true rfl) (by omega) (by omega) (fun E h' n' _ z => det_x z) (det_k ?_)
  refine sw_astore_n (pc' := 6) (lv' := [(2, _), (0, _), (1, _)]) rfl dX3_code_5 (by decide +kernel) rfl ?_
  refine sw_iconst (pc' := 7) (v := 1) rfl dX3_code_6 (by decide +kernel) ?_
  refine sw_istore_n (pc' := 8) (lv' := [(3, _), (2, _), (0, _), (1, _)]) rfl dX3_code_7 (by decide +kernel) rfl ?_
  refine sw_iconst (pc' := 9) (v := 0) rfl dX3_code_8 (by decide +kernel) ?_
  refine sw_istore (pc' := 11) (lv' := [(4, _), (3, _), (2, _), (0, _), (1, _)]) rfl dX3_code_9 (by decide +kernel) rfl ?_
  rw [opCode, onSh_k hk2]
  exact l_code hR hk2 (by omega) _ 0 1 (by omega)
theorem l_fill {b kd c d bc bs n : Nat} {f : Nat → Int32} {s t a x : Int32} {h0 : AH} {Post : ARes → AH → Nat → Prop} (hd : 1 ≤ d) (hP : ∀ h, ShF h b kd (fiN f x c) c s t → FrS h0 h b → Post (rI (nI c)) h n) (m : Nat) : ∀ (j : Nat) (h : AH), j + m = c → ShF h b kd (fiN f x j) c s t → FrS h0 h b → SW SR0 MX3_fill d bc bs 23 [(4, .int (nI j)), (3, .ref b), (0, .ref 100), (1, .int a), (2, .int x)] [] h n Post := by
  induction m with
  | zero =>
    intro j h hj hS hF
    have hjc : j = c := by omega
    have hc := hS.2.2.1
    subst hjc
    refine sw_iload (pc' := 25) rfl dX3_fill_23 rfl ?_
    refine sw_aload_n (pc' := 26) rfl dX3_fill_25 rfl ?_
    refine sw_getf (ci := 2) (k := 2) (pc' := 29) rfl dX3_fill_26 (by decide +kernel) w_84 hS.1 rfl ?_
    refine sw_icmp_ge (pc' := 32) (tgt := 46) rfl dX3_fill_29 (by decide +kernel) (fun c29 => ?_) (fun c29 => ?_)
    · refine sw_aload_n (pc' := 47) rfl dX3_fill_46 rfl ?_
      refine sw_getf (ci := 2) (k := 2) (pc' := 50) rfl dX3_fill_47 (by decide +kernel) w_84 hS.1 rfl ?_
      refine sw_ret (v := some _) ⟨dX3_fill_50, _, rfl, rfl⟩ ?_
      exact hP h hS hF
    · exact absurd (Int32.le_refl _) c29
  | succ m ih =>
    intro j h hj hS hF
    have hc := hS.2.2.1
    refine sw_iload (pc' := 25) rfl dX3_fill_23 rfl ?_
    refine sw_aload_n (pc' := 26) rfl dX3_fill_25 rfl ?_
    refine sw_getf (ci := 2) (k := 2) (pc' := 29) rfl dX3_fill_26 (by decide +kernel) w_84 hS.1 rfl ?_
    refine sw_icmp_ge (pc' := 32) (tgt := 46) rfl dX3_fill_29 (by decide +kernel) (fun c29 => ?_) (fun c29 => ?_)
    · exact absurd c29 (nI_ge (by omega) (by omega))
    · refine sw_aload_n (pc' := 33) rfl dX3_fill_32 rfl ?_
      refine sw_iload (pc' := 35) rfl dX3_fill_33 rfl ?_
      refine sw_iload_n (pc' := 36) rfl dX3_fill_35 rfl ?_
      refine sw_V (M' := MX1_exchange) (d' := d - 1) (bc' := 0) (bs' := 0) (ci := 2) (as := [_, _]) dX3_fill_36 w_512 ok_X1_exchange (m_exchange (j := j) hS (by omega)) hS.1 rfl (by omega) (Nat.le_of_ble_eq_true rfl) (Nat.zero_le _) (Nat.zero_le _) (fun E h' n' _ z => shp_x z) (shp_k (fun p pS pF => ?_))
      refine sw_pop (pc' := 40) rfl dX3_fill_39 rfl ?_
      refine sw_iinc (pc' := 43) (lv' := [(4, _), (3, _), (0, _), (1, _), (2, _)]) (v := nI (j + 1)) rfl dX3_fill_40 rfl (nI_succ j).symm (by decide +kernel) rfl ?_
      refine sw_goto (tgt := 23) dX3_fill_43 (by decide +kernel) ?_
      exact ih (j + 1) p (by omega) (fiN_s ▸ pS) (hF.tr pF)
theorem m_fill {h : AH} {σ : CS} {d bc bs n : Nat} {a x : Int32} (hR : RC h σ) (hd : 6 ≤ d) (hb1 : 20 ≤ bc) (hb2 : 200 ≤ bs) : SM SR0 MX3_fill d bc bs [.ref 100, .int a, .int x] h n (CP h n (opFill σ a x)) := by
  refine sm_of pn_Overwalks rfl (Nat.le_of_ble_eq_true rfl) ?_
  refine sw_aload_n (pc' := 1) rfl dX3_fill_0 rfl ?_
  refine sw_iload_n (pc' := 2) rfl dX3_fill_1 rfl ?_
  rcases idxN 11 (by decide +kernel) a with q2 | ⟨k2, hk2, q2⟩
  · refine sw_V (M' := MX3_rowAt) (d' := d - 1) (bc' := 2) (bs' := 12) (ci := 4) (as := [_]) dX3_fill_2 w_541 ok_X3_rowAt (m_rowAt_x hR (Nat.le_refl _) (Nat.le_refl _) (by omega) q2) hR.1 rfl (by omega) (Nat.le_of_ble_eq_true rfl) (by omega) (by omega) (dx_x (swx_out rfl ?_)) (fun v h' n' _ z => dx_k z)
    rw [opFill, onRw_x q2]
    exact ⟨rfl, rfl, hR, FrC.rf⟩
  subst q2
  rcases Classical.em (kP (kdO k2) = false) with q2 | q2
  · refine sw_V (M' := MX3_rowAt) (d' := d - 1) (bc' := 2) (bs' := 12) (ci := 4) (as := [_]) dX3_fill_2 w_541 ok_X3_rowAt (m_rowAt_y hR (Nat.le_refl _) (Nat.le_refl _) (by omega) hk2 q2) hR.1 rfl (by omega) (Nat.le_of_ble_eq_true rfl) (by omega) (by omega) (dx_x (swx_out rfl ?_)) (fun v h' n' _ z => dx_k z)
    rw [opFill, onRw_y hk2 q2]
    exact ⟨rfl, rfl, hR, FrC.rf⟩
  refine sw_V (M' := MX3_rowAt) (d' := d - 1) (bc' := 2) (bs' := 12) (ci := 4) (as := [_]) dX3_fill_2 w_541 ok_X3_rowAt (m_rowAt_k hR (Nat.le_refl _) (Nat.le_refl _) (by omega) hk2 q2) hR.1 rfl (by omega) (Nat.le_of_ble_eq_true rfl) (by omega) (by omega) (fun E h' n' _ z => det_x z) (det_k ?_)
  refine sw_astore_n (pc' := 6) (lv' := [(3, _), (0, _), (1, _), (2, _)]) rfl dX3_fill_5 (by decide +kernel) rfl ?_
  refine sw_iload_n (pc' := 7) rfl dX3_fill_6 rfl ?_
  rcases Classical.em (x < 0 ∨ 100 < x) with q7 | q7
  · refine sw_S (M' := MX3_requireThingOrNothing) (d' := d - 1) (bc' := 1) (bs' := 6) (as := [_]) dX3_fill_7 w_407 ok_X3_requireThingOrNothing (m_requireThingOrNothing_x (Nat.le_refl _) (Nat.le_refl _) q7) (by omega) (Nat.le_of_ble_eq_true rfl) (by omega) (by omega) (dx_x (swx_out rfl ?_)) (fun v h' n' _ z => dx_k z)
    rw [opFill, onRw_k hk2 q2, if_pos q7]
    exact ⟨rfl, rfl, hR, FrC.rf⟩
  refine sw_S (M' := MX3_requireThingOrNothing) (d' := d - 1) (bc' := 1) (bs' := 6) (as := [_]) dX3_fill_7 w_407 ok_X3_requireThingOrNothing (m_requireThingOrNothing_k (Nat.le_refl _) (Nat.le_refl _) q7) (by omega) (Nat.le_of_ble_eq_true rfl) (by omega) (by omega) (fun E h' n' _ z => det_x z) (det_k ?_)
  refine sw_aload_n (pc' := 11) rfl dX3_fill_10 rfl ?_
  refine sw_dup (pc' := 12) rfl dX3_fill_11 rfl ?_
  refine sw_getf (ci := 2) (k := 4) (pc' := 15) rfl dX3_fill_12 (by decide +kernel) w_89 (hR.sh hk2).1 rfl ?_
  refine sw_iconst (pc' := 16) (v := 1) rfl dX3_fill_15 (by decide +kernel) ?_
  refine sw_iadd (pc' := 17) rfl dX3_fill_16 ?_
  refine sw_putf (ci := 2) (k := 4) (pc' := 20) rfl dX3_fill_17 (by decide +kernel) (by decide +kernel) w_89 rfl (hR.sh hk2).1 (hR.sh hk2).2.2.2 (Nat.le_of_ble_eq_true rfl) rfl rfl ?_
  refine sw_nm (fun g1 eg1 => ?_)
  have zk2 := (congrFun eg1 _).trans (up_s (h := h) (i := (102 + 2 * k2)))
  have zk3 := ((congrFun eg1 100).trans (up_n (h := h) (by omega))).trans hR.1
  have zk4 := ((congrFun eg1 ((102 + 2 * k2) + 1)).trans (up_n (h := h) (by omega))).trans (hR.sh hk2).2.1
  refine sw_iconst (pc' := 21) (v := 0) rfl dX3_fill_20 (by decide +kernel) ?_
  refine sw_istore (pc' := 23) (lv' := [(4, _), (3, _), (0, _), (1, _), (2, _)]) rfl dX3_fill_21 (by decide +kernel) rfl ?_
  rw [opFill, onRw_k hk2 q2, if_neg q7]
  refine l_fill (h0 := h) (kd := kdO k2) (f := σ.1 k2) (c := σ.2.1 k2) (s := σ.2.2.1 k2) (t := σ.2.2.2.1 k2 + 1) (by omega) (fun g gS gF => ⟨rfl, rfl, hR.sU hk2 gS gF, gF.c hk2⟩) (σ.2.1 k2) 0 g1 (by omega) ⟨zk2, by rw [fiN_0]; exact zk4, (hR.sh hk2).2.2⟩ (fun i h1 h2 => (congrFun eg1 i).trans ((up_n h1).trans (rfl)))
theorem l_copies {d bc bs n k : Nat} {a x : Int32} {h0 : AH} (hk : k < 11) (hd : 3 ≤ d) (m : Nat) : ∀ (j : Nat) (h : AH) (σ : CS), j + m ≤ 12 → σ.2.1 k + m ≤ 12 → RC h σ → FrC h0 h n → SW SR0 MX3_copies d bc bs 24 [(5, .int (nI j)), (4, .ref (102 + 2 * k)), (0, .ref 100), (1, .int a), (2, .int x), (3, .int (nI (j + m)))] [] h n (CP h0 n (rI (nI ((ldM k x m σ).2.1 k)), ldM k x m σ)) := by
  induction m with
  | zero =>
    intro j h σ hj hm hR hF
    refine sw_iload (pc' := 26) rfl dX3_copies_24 rfl ?_
    refine sw_iload_n (pc' := 27) rfl dX3_copies_26 rfl ?_
    refine sw_icmp_ge (pc' := 30) (tgt := 43) rfl dX3_copies_27 (by decide +kernel) (fun c27 => ?_) (fun c27 => ?_)
    · refine sw_aload (pc' := 45) rfl dX3_copies_43 rfl ?_
      refine sw_getf (ci := 2) (k := 2) (pc' := 48) rfl dX3_copies_45 (by decide +kernel) w_84 (hR.sh hk).1 rfl ?_
      refine sw_ret (v := some _) ⟨dX3_copies_48, _, rfl, rfl⟩ ?_
      exact ⟨rfl, rfl, hR, hF⟩
    · exact absurd (Int32.le_refl _) c27
  | succ m ih =>
    intro j h σ hj hm hR hF
    refine sw_iload (pc' := 26) rfl dX3_copies_24 rfl ?_
    refine sw_iload_n (pc' := 27) rfl dX3_copies_26 rfl ?_
    refine sw_icmp_ge (pc' := 30) (tgt := 43) rfl dX3_copies_27 (by decide +kernel) (fun c27 => ?_) (fun c27 => ?_)
    · exact absurd c27 (nI_ge (by omega) (by omega))
    · refine sw_aload (pc' := 32) rfl dX3_copies_30 rfl ?_
      refine sw_iload_n (pc' := 33) rfl dX3_copies_32 rfl ?_
      refine sw_V (M' := MX1_layDown) (d' := d - 1) (bc' := 0) (bs' := 0) (ci := 2) (as := [_]) dX3_copies_33 w_443 ok_X1_layDown (m_layDown (hR.sh hk) (hR.kd kdO_r) (by omega) (by omega)) (hR.sh hk).1 rfl (by omega) (Nat.le_of_ble_eq_true rfl) (Nat.zero_le _) (Nat.zero_le _) (fun E h' n' _ z => shp_x z) (shp_k (fun p pS pF => ?_))
      refine sw_pop (pc' := 37) rfl dX3_copies_36 rfl ?_
      refine sw_iinc (pc' := 40) (lv' := [(5, _), (4, _), (0, _), (1, _), (2, _), (3, _)]) (v := nI (j + 1)) rfl dX3_copies_37 rfl (nI_succ j).symm (by decide +kernel) rfl ?_
      refine sw_goto (tgt := 24) dX3_copies_40 (by decide +kernel) ?_
      have hu := ldU_c (σ := σ) (k := k) (x := x)
      have g := ih (j + 1) p (ldU σ k x) (by omega) (by omega) (hR.ldS hk pS pF) (hF.tr (pF.c hk) (Nat.le_refl _))
      rw [show j + 1 + m = j + (m + 1) by omega] at g
      exact g
theorem m_copies {h : AH} {σ : CS} {d bc bs n : Nat} {a x m : Int32} (hR : RC h σ) (hd : 6 ≤ d) (hb1 : 20 ≤ bc) (hb2 : 200 ≤ bs) : SM SR0 MX3_copies d bc bs [.ref 100, .int a, .int x, .int m] h n (CP h n (opCopies σ a x m)) := by
  refine sm_of pn_Overwalks rfl (Nat.le_of_ble_eq_true rfl) ?_
  refine sw_aload_n (pc' := 1) rfl dX3_copies_0 rfl ?_
  refine sw_iload_n (pc' := 2) rfl dX3_copies_1 rfl ?_
  rcases idxN 11 (by decide +kernel) a with q2 | ⟨k2, hk2, q2⟩
  · refine sw_V (M' := MX3_rowAt) (d' := d - 1) (bc' := 2) (bs' := 12) (ci := 4) (as := [_]) dX3_copies_2 w_541 ok_X3_rowAt (m_rowAt_x hR (Nat.le_refl _) (Nat.le_refl _) (by omega) q2) hR.1 rfl (by omega) (Nat.le_of_ble_eq_true rfl) (by omega) (by omega) (dx_x (swx_out rfl ?_)) (fun v h' n' _ z => dx_k z)
    rw [opCopies, onRw_x q2]
    exact ⟨rfl, rfl, hR, FrC.rf⟩
  subst q2
  rcases Classical.em (kP (kdO k2) = false) with q2 | q2
  · refine sw_V (M' := MX3_rowAt) (d' := d - 1) (bc' := 2) (bs' := 12) (ci := 4) (as := [_]) dX3_copies_2 w_541 ok_X3_rowAt (m_rowAt_y hR (Nat.le_refl _) (Nat.le_refl _) (by omega) hk2 q2) hR.1 rfl (by omega) (Nat.le_of_ble_eq_true rfl) (by omega) (by omega) (dx_x (swx_out rfl ?_)) (fun v h' n' _ z => dx_k z)
    rw [opCopies, onRw_y hk2 q2]
    exact ⟨rfl, rfl, hR, FrC.rf⟩
  refine sw_V (M' := MX3_rowAt) (d' := d - 1) (bc' := 2) (bs' := 12) (ci := 4) (as := [_]) dX3_copies_2 w_541 ok_X3_rowAt (m_rowAt_k hR (Nat.le_refl _) (Nat.le_refl _) (by omega) hk2 q2) hR.1 rfl (by omega) (Nat.le_of_ble_eq_true rfl) (by omega) (by omega) (fun E h' n' _ z => det_x z) (det_k ?_)
  refine sw_astore (pc' := 7) (lv' := [(4, _), (0, _), (1, _), (2, _), (3, _)]) rfl dX3_copies_5 (by decide +kernel) rfl ?_
  refine sw_iload_n (pc' := 8) rfl dX3_copies_7 rfl ?_
  rcases Classical.em (x < 0 ∨ 100 < x) with q8 | q8
  · refine sw_S (M' := MX3_requireThingOrNothing) (d' := d - 1) (bc' := 1) (bs' := 6) (as := [_]) dX3_copies_8 w_407 ok_X3_requireThingOrNothing (m_requireThingOrNothing_x (Nat.le_refl _) (Nat.le_refl _) q8) (by omega) (Nat.le_of_ble_eq_true rfl) (by omega) (by omega) (dx_x (swx_out rfl ?_)) (fun v h' n' _ z => dx_k z)
    rw [opCopies, onRw_k hk2 q2, if_pos q8]
    exact ⟨rfl, rfl, hR, FrC.rf⟩
  refine sw_S (M' := MX3_requireThingOrNothing) (d' := d - 1) (bc' := 1) (bs' := 6) (as := [_]) dX3_copies_8 w_407 ok_X3_requireThingOrNothing (m_requireThingOrNothing_k (Nat.le_refl _) (Nat.le_refl _) q8) (by omega) (Nat.le_of_ble_eq_true rfl) (by omega) (by omega) (fun E h' n' _ z => det_x z) (det_k ?_)
  refine sw_iload_n (pc' := 12) rfl dX3_copies_11 rfl ?_
  rcases Classical.em (m < 0 ∨ 12 < m) with q12 | q12
  · refine sw_S (M' := MX3_requireUpToRoom) (d' := d - 1) (bc' := 1) (bs' := 6) (as := [_]) dX3_copies_12 w_620 ok_X3_requireUpToRoom (m_requireUpToRoom_x (Nat.le_refl _) (Nat.le_refl _) q12) (by omega) (Nat.le_of_ble_eq_true rfl) (by omega) (by omega) (dx_x (swx_out rfl ?_)) (fun v h' n' _ z => dx_k z)
    rw [opCopies, onRw_k hk2 q2, if_neg q8, if_pos q12]
    exact ⟨rfl, rfl, hR, FrC.rf⟩
  refine sw_S (M' := MX3_requireUpToRoom) (d' := d - 1) (bc' := 1) (bs' := 6) (as := [_]) dX3_copies_12 w_620 ok_X3_requireUpToRoom (m_requireUpToRoom_k (Nat.le_refl _) (Nat.le_refl _) q12) (by omega) (Nat.le_of_ble_eq_true rfl) (by omega) (by omega) (fun E h' n' _ z => det_x z) (det_k ?_)
  refine sw_aload (pc' := 17) rfl dX3_copies_15 rfl ?_
  refine sw_iload_n (pc' := 18) rfl dX3_copies_17 rfl ?_
  rcases Classical.em (12 < nI (σ.2.1 k2) + m) with q18 | q18
  · refine sw_S (M' := MX3_requireRoom) (d' := d - 1) (bc' := 1) (bs' := 6) (as := [_, _]) dX3_copies_18 w_411 ok_X3_requireRoom (m_requireRoom_x (hR.sh hk2) (Nat.le_refl _) (Nat.le_refl _) q18) (by omega) (Nat.le_of_ble_eq_true rfl) (by omega) (by omega) (dx_x (swx_out rfl ?_)) (fun v h' n' _ z => dx_k z)
    rw [opCopies, onRw_k hk2 q2, if_neg q8, if_neg q12, if_pos q18]
    exact ⟨rfl, rfl, hR, FrC.rf⟩
  refine sw_S (M' := MX3_requireRoom) (d' := d - 1) (bc' := 1) (bs' := 6) (as := [_, _]) dX3_copies_18 w_411 ok_X3_requireRoom (m_requireRoom_k (hR.sh hk2) (Nat.le_refl _) (Nat.le_refl _) q18) (by omega) (Nat.le_of_ble_eq_true rfl) (by omega) (by omega) (fun E h' n' _ z => det_x z) (det_k ?_)
  obtain ⟨i, hi, ei⟩ := nI_of (fun e => q12 (Or.inl e))
  subst ei
  have hi2 : i ≤ 12 := (nI_leI (b := 12) hi (by decide +kernel)).mp (Int32.not_lt.mp (fun e => q12 (Or.inr e)))
  have hc := (hR.sh hk2).2.2.1
  have hci := nI_room hc hi2 q18
  refine sw_iconst (pc' := 22) (v := 0) rfl dX3_copies_21 (by decide +kernel) ?_
  refine sw_istore (pc' := 24) (lv' := [(5, _), (4, _), (0, _), (1, _), (2, _), (3, _)]) rfl dX3_copies_22 (by decide +kernel) rfl ?_
  rw [opCopies, onRw_k hk2 q2, if_neg q8, if_neg q12, if_neg q18, nI_clamp hi]
  have g := l_copies (d := d) (bc := bc - 2 - 1 - 1 - 1) (bs := bs - 12 - 6 - 6 - 6) (n := n) (a := nI k2) (x := x) (h0 := h) hk2 (by omega) i 0 h σ (by omega) hci hR FrC.rf
  rw [Nat.zero_add] at g
  exact g
end
section
/-! 22.ops -/
/-! replace, pour, disjoint, what a WALK's list takes -/
def rpF (f : Nat → Int32) (x y : Int32) (j : Nat) : Nat → Int32 := fun q => if q < j ∧ f q = x then y else f q
theorem rpF_0 {f : Nat → Int32} {x y : Int32} : rpF f x y 0 = f := by
  funext q
  exact if_neg (by omega)
theorem rpF_j {f : Nat → Int32} {x y : Int32} {j : Nat} : rpF f x y j j = f j := if_neg (by omega)
theorem rpF_s {f : Nat → Int32} {x y : Int32} {j : Nat} (e : f j = x) : up (rpF f x y j) j y = rpF f x y (j + 1) := by
  funext q
  by_cases g : q = j
  · subst g
    rw [up_s]
    exact (if_pos ⟨by omega, e⟩).symm
  · rw [up_n g]
    unfold rpF
    by_cases g1 : q < j ∧ f q = x
    · rw [if_pos g1, if_pos ⟨by omega, g1.2⟩]
    · rw [if_neg g1, if_neg (fun z => g1 ⟨by omega, z.2⟩)]
theorem rpF_n {f : Nat → Int32} {x y : Int32} {j : Nat} (e : ¬ f j = x) : rpF f x y j = rpF f x y (j + 1) := by
  funext q
  unfold rpF
  by_cases g1 : q < j ∧ f q = x
  · rw [if_pos g1, if_pos ⟨by omega, g1.2⟩]
  · rw [if_neg g1, if_neg (fun z => g1 ⟨by
      have h1 : q ≠ j := fun e1 => e (e1 ▸ z.2)
      omega, z.2⟩)]
def opReplace (σ : CS) (a x y : Int32) : ARes × CS := onRw a σ (fun k => if x < 0 ∨ 100 < x then (xA, σ) else if y < 0 ∨ 100 < y then (xA, σ) else (rI (bI (false || (fpN (σ.1 k) x 0 (σ.2.1 k)).isSome)), sU σ k (rpF (σ.1 k) x y (σ.2.1 k)) (σ.2.1 k) (σ.2.2.1 k) (σ.2.2.2.1 k + 1)))
/-- it holds NOTHINGS, and the other does not take them -/
def nnB (σ : CS) (k j : Nat) : Bool := (fpN (σ.1 k) 100 0 (σ.2.1 k)).isSome && !tkB j 100
def cpB (σ : CS) (k j : Nat) : Bool := decide (kdO j = 5) || nnB σ k j
/-- what lies on SHELF k from place i on, m things, is PUT on SHELF j -/
def pbM (k j : Nat) : Nat → Nat → Bool → CS → Bool × CS
  | _, 0, w, σ => (w, σ)
  | i, m + 1, w, σ => pbM k j (i + 1) m (w || ldY (σ.1 j) (σ.2.1 j) (kdO j) (taI (σ.1 k) (σ.2.1 k) (nI i))) (ldU σ j (taI (σ.1 k) (σ.2.1 k) (nI i)))
def opPour (σ : CS) (a b : Int32) : ARes × CS := onSh a σ (fun k => onSh b σ (fun j => if 12 < nI (σ.2.1 j) + nI (σ.2.1 k) then (xS, σ) else if cpB σ k j = true then (rI (-9), rfU σ) else (rI (bI (pbM k j 0 (σ.2.1 k) false σ).1), (pbM k j 0 (σ.2.1 k) false σ).2)))
/-- no thing from place i on, m of them, lies on SHELF j -/
def djB (σ : CS) (k j : Nat) : Nat → Nat → Bool
  | _, 0 => true
  | i, m + 1 => !(fpN (σ.1 j) (σ.1 k i) 0 (σ.2.1 j)).isSome && djB σ k j (i + 1) m
def opDisjoint (σ : CS) (a b : Int32) : ARes × CS := onSh a σ (fun k => onSh b σ (fun j => if nnB σ k j = true ∨ nnB σ j k = true then (rI (-9), rfU σ) else (rI (bI (djB σ k j 0 (σ.2.1 k))), σ)))
theorem l_replace {b kd c d bc bs n : Nat} {f : Nat → Int32} {s t a x y : Int32} {h0 : AH} {Post : ARes → AH → Nat → Prop} (hd : 1 ≤ d) (m : Nat) : ∀ (j : Nat) (h : AH) (w : Bool), (∀ h, ShF h b kd (rpF f x y c) c s t → FrS h0 h b → Post (rI (bI (w || (fpN f x j m).isSome))) h n) → j + m = c → ShF h b kd (rpF f x y j) c s t → FrS h0 h b → SW SR0 MX3_replace d bc bs 32 [(6, .int (nI j)), (5, .int (bI w)), (4, .ref b), (0, .ref 100), (1, .int a), (2, .int x), (3, .int y)] [] h n Post := by
  induction m with
  | zero =>
    intro j h w hP hj hS hF
    have hjc : j = c := by omega
    have hc := hS.2.2.1
    subst hjc
    rw [show (fpN f x j 0).isSome = false from rfl, Bool.or_false] at hP
    refine sw_iload (pc' := 34) rfl dX3_replace_32 rfl ?_
    refine sw_aload (pc' := 36) rfl dX3_replace_34 rfl ?_
    refine sw_getf (ci := 2) (k := 2) (pc' := 39) rfl dX3_replace_36 (by decide +kernel) w_84 hS.1 rfl ?_
    refine sw_icmp_ge (pc' := 42) (tgt := 71) rfl dX3_replace_39 (by decide +kernel) (fun c39 => ?_) (fun c39 => ?_)
    · refine sw_iload (pc' := 73) rfl dX3_replace_71 rfl ?_
      refine sw_S (M' := MX3_oneIf) (d' := d - 1) (bc' := 0) (bs' := 0) (as := [_]) dX3_replace_73 w_277 ok_X3_oneIf (m_oneIf) (by omega) (Nat.le_of_ble_eq_true rfl) (Nat.zero_le _) (Nat.zero_le _) (fun E h' n' _ z => det_x z) (det_k ?_)
      refine sw_ret (v := some _) ⟨dX3_replace_76, _, rfl, rfl⟩ ?_
      exact hP h hS hF
    · exact absurd (Int32.le_refl _) c39
  | succ m ih =>
    intro j h w hP hj hS hF
    have hc := hS.2.2.1
    have e1 : taI (rpF f x y j) c (nI j) = f j := (taI_in (by omega) hc).trans rpF_j
    refine sw_iload (pc' := 34) rfl dX3_replace_32 rfl ?_
    refine sw_aload (pc' := 36) rfl dX3_replace_34 rfl ?_
    refine sw_getf (ci := 2) (k := 2) (pc' := 39) rfl dX3_replace_36 (by decide +kernel) w_84 hS.1 rfl ?_
    refine sw_icmp_ge (pc' := 42) (tgt := 71) rfl dX3_replace_39 (by decide +kernel) (fun c39 => ?_) (fun c39 => ?_)
    · exact absurd c39 (nI_ge (by omega) (by omega))
    · refine sw_aload (pc' := 44) rfl dX3_replace_42 rfl ?_
      refine sw_iload (pc' := 46) rfl dX3_replace_44 rfl ?_
      refine sw_V (M' := MX1_thingAt) (d' := d - 1) (bc' := 0) (bs' := 0) (ci := 2) (as := [_]) dX3_replace_46 w_230 ok_X1_thingAt (m_thingAt hS) hS.1 rfl (by omega) (Nat.le_of_ble_eq_true rfl) (Nat.zero_le _) (Nat.zero_le _) (fun E h' n' _ z => det_x z) (det_k ?_)
      refine sw_iload_n (pc' := 50) rfl dX3_replace_49 rfl ?_
      refine sw_icmp_ne (pc' := 53) (tgt := 65) rfl dX3_replace_50 (by decide +kernel) (fun c50 => ?_) (fun c50 => ?_)
      · refine sw_iinc (pc' := 68) (lv' := [(6, _), (5, _), (4, _), (0, _), (1, _), (2, _), (3, _)]) (v := nI (j + 1)) rfl dX3_replace_65 rfl (nI_succ j).symm (by decide +kernel) rfl ?_
        refine sw_goto (tgt := 32) dX3_replace_68 (by decide +kernel) ?_
        rw [e1] at c50
        refine ih (j + 1) h w (fun g gS gF => ?_) (by omega) (rpF_n c50 ▸ hS) hF
        have k9 := hP g gS gF
        rw [fpN, if_neg c50] at k9
        exact k9
      · refine sw_aload (pc' := 55) rfl dX3_replace_53 rfl ?_
        refine sw_iload (pc' := 57) rfl dX3_replace_55 rfl ?_
        refine sw_iload_n (pc' := 58) rfl dX3_replace_57 rfl ?_
        refine sw_V (M' := MX1_exchange) (d' := d - 1) (bc' := 0) (bs' := 0) (ci := 2) (as := [_, _]) dX3_replace_58 w_512 ok_X1_exchange (m_exchange (j := j) hS (by omega)) hS.1 rfl (by omega) (Nat.le_of_ble_eq_true rfl) (Nat.zero_le _) (Nat.zero_le _) (fun E h' n' _ z => shp_x z) (shp_k (fun p pS pF => ?_))
        refine sw_pop (pc' := 62) rfl dX3_replace_61 rfl ?_
        refine sw_iconst (pc' := 63) (v := 1) rfl dX3_replace_62 (by decide +kernel) ?_
        refine sw_istore (pc' := 65) (lv' := [(5, _), (6, _), (4, _), (0, _), (1, _), (2, _), (3, _)]) rfl dX3_replace_63 (by decide +kernel) rfl ?_
        refine sw_iinc (pc' := 68) (lv' := [(6, _), (5, _), (4, _), (0, _), (1, _), (2, _), (3, _)]) (v := nI (j + 1)) rfl dX3_replace_65 rfl (nI_succ j).symm (by decide +kernel) rfl ?_
        refine sw_goto (tgt := 32) dX3_replace_68 (by decide +kernel) ?_
        rw [e1] at c50
        refine ih (j + 1) p true (fun g gS gF => ?_) (by omega) (rpF_s c50 ▸ pS) (hF.tr pF)
        have k9 := hP g gS gF
        rw [fpN, if_pos c50, Option.isSome_some, Bool.or_true] at k9
        rw [Bool.true_or]
        exact k9
theorem m_replace {h : AH} {σ : CS} {d bc bs n : Nat} {a x y : Int32} (hR : RC h σ) (hd : 6 ≤ d) (hb1 : 20 ≤ bc) (hb2 : 200 ≤ bs) : SM SR0 MX3_replace d bc bs [.ref 100, .int a, .int x, .int y] h n (CP h n (opReplace σ a x y)) := by
  refine sm_of pn_Overwalks rfl (Nat.le_of_ble_eq_true rfl) ?_
  refine sw_aload_n (pc' := 1) rfl dX3_replace_0 rfl ?_
  refine sw_iload_n (pc' := 2) rfl dX3_replace_1 rfl ?_
  rcases idxN 11 (by decide +kernel) a with q2 | ⟨k2, hk2, q2⟩
  · refine sw_V (M' := MX3_rowAt) (d' := d - 1) (bc' := 2) (bs' := 12) (ci := 4) (as := [_]) dX3_replace_2 w_541 ok_X3_rowAt (m_rowAt_x hR (Nat.le_refl _) (Nat.le_refl _) (by omega) q2) hR.1 rfl (by omega) (Nat.le_of_ble_eq_true rfl) (by omega) (by omega) (dx_x (swx_out rfl ?_)) (fun v h' n' _ z => dx_k z)
    rw [opReplace, onRw_x q2]
    exact ⟨rfl, rfl, hR, FrC.rf⟩
  subst q2
  rcases Classical.em (kP (kdO k2) = false) with q2 | q2
  · refine sw_V (M' := MX3_rowAt) (d' := d - 1) (bc' := 2) (bs' := 12) (ci := 4) (as := [_]) dX3_replace_2 w_541 ok_X3_rowAt (m_rowAt_y hR (Nat.le_refl _) (Nat.le_refl _) (by omega) hk2 q2) hR.1 rfl (by omega) (Nat.le_of_ble_eq_true rfl) (by omega) (by omega) (dx_x (swx_out rfl ?_)) (fun v h' n' _ z => dx_k z)
    rw [opReplace, onRw_y hk2 q2]
    exact ⟨rfl, rfl, hR, FrC.rf⟩
  refine sw_V (M' := MX3_rowAt) (d' := d - 1) (bc' := 2) (bs' := 12) (ci := 4) (as := [_]) dX3_replace_2 w_541 ok_X3_rowAt (m_rowAt_k hR (Nat.le_refl _) (Nat.le_refl _) (by omega) hk2 q2) hR.1 rfl (by omega) (Nat.le_of_ble_eq_true rfl) (by omega) (by omega) (fun E h' n' _ z => det_x z) (det_k ?_)
  refine sw_astore (pc' := 7) (lv' := [(4, _), (0, _), (1, _), (2, _), (3, _)]) rfl dX3_replace_5 (by decide +kernel) rfl ?_
  refine sw_iload_n (pc' := 8) rfl dX3_replace_7 rfl ?_
  rcases Classical.em (x < 0 ∨ 100 < x) with q8 | q8
  · refine sw_S (M' := MX3_requireThingOrNothing) (d' := d - 1) (bc' := 1) (bs' := 6) (as := [_]) dX3_replace_8 w_407 ok_X3_requireThingOrNothing (m_requireThingOrNothing_x (Nat.le_refl _) (Nat.le_refl _) q8) (by omega) (Nat.le_of_ble_eq_true rfl) (by omega) (by omega) (dx_x (swx_out rfl ?_)) (fun v h' n' _ z => dx_k z)
    rw [opReplace, onRw_k hk2 q2, if_pos q8]
    exact ⟨rfl, rfl, hR, FrC.rf⟩
  refine sw_S (M' := MX3_requireThingOrNothing) (d' := d - 1) (bc' := 1) (bs' := 6) (as := [_]) dX3_replace_8 w_407 ok_X3_requireThingOrNothing (m_requireThingOrNothing_k (Nat.le_refl _) (Nat.le_refl _) q8) (by omega) (Nat.le_of_ble_eq_true rfl) (by omega) (by omega) (fun E h' n' _ z => det_x z) (det_k ?_)
  refine sw_iload_n (pc' := 12) rfl dX3_replace_11 rfl ?_
  rcases Classical.em (y < 0 ∨ 100 < y) with q12 | q12
  · refine sw_S (M' := MX3_requireThingOrNothing) (d' := d - 1) (bc' := 1) (bs' := 6) (as := [_]) dX3_replace_12 w_407 ok_X3_requireThingOrNothing (m_requireThingOrNothing_x (Nat.le_refl _) (Nat.le_refl _) q12) (by omega) (Nat.le_of_ble_eq_true rfl) (by omega) (by omega) (dx_x (swx_out rfl ?_)) (fun v h' n' _ z => dx_k z)
    rw [opReplace, onRw_k hk2 q2, if_neg q8, if_pos q12]
    exact ⟨rfl, rfl, hR, FrC.rf⟩
  refine sw_S (M' := MX3_requireThingOrNothing) (d' := d - 1) (bc' := 1) (bs' := 6) (as := [_]) dX3_replace_12 w_407 ok_X3_requireThingOrNothing (m_requireThingOrNothing_k (Nat.le_refl _) (Nat.le_refl _) q12) (by omega) (Nat.le_of_ble_eq_true rfl) (by omega) (by omega) (fun E h' n' _ z => det_x z) (det_k ?_)
  refine sw_aload (pc' := 17) rfl dX3_replace_15 rfl ?_
  refine sw_dup (pc' := 18) rfl dX3_replace_17 rfl ?_
  refine sw_getf (ci := 2) (k := 4) (pc' := 21) rfl dX3_replace_18 (by decide +kernel) w_89 (hR.sh hk2).1 rfl ?_
  refine sw_iconst (pc' := 22) (v := 1) rfl dX3_replace_21 (by decide +kernel) ?_
  refine sw_iadd (pc' := 23) rfl dX3_replace_22 ?_
  refine sw_putf (ci := 2) (k := 4) (pc' := 26) rfl dX3_replace_23 (by decide +kernel) (by decide +kernel) w_89 rfl (hR.sh hk2).1 (hR.sh hk2).2.2.2 (Nat.le_of_ble_eq_true rfl) rfl rfl ?_
  refine sw_nm (fun g1 eg1 => ?_)
  have zk2 := (congrFun eg1 _).trans (up_s (h := h) (i := (102 + 2 * k2)))
  have zk3 := ((congrFun eg1 100).trans (up_n (h := h) (by omega))).trans hR.1
  have zk4 := ((congrFun eg1 ((102 + 2 * k2) + 1)).trans (up_n (h := h) (by omega))).trans (hR.sh hk2).2.1
  refine sw_iconst (pc' := 27) (v := 0) rfl dX3_replace_26 (by decide +kernel) ?_
  refine sw_istore (pc' := 29) (lv' := [(5, _), (4, _), (0, _), (1, _), (2, _), (3, _)]) rfl dX3_replace_27 (by decide +kernel) rfl ?_
  refine sw_iconst (pc' := 30) (v := 0) rfl dX3_replace_29 (by decide +kernel) ?_
  refine sw_istore (pc' := 32) (lv' := [(6, _), (5, _), (4, _), (0, _), (1, _), (2, _), (3, _)]) rfl dX3_replace_30 (by decide +kernel) rfl ?_
  rw [opReplace, onRw_k hk2 q2, if_neg q8, if_neg q12]
  exact l_replace (h0 := h) (kd := kdO k2) (f := σ.1 k2) (c := σ.2.1 k2) (s := σ.2.2.1 k2) (t := σ.2.2.2.1 k2 + 1) (by omega) (σ.2.1 k2) 0 g1 false (fun g gS gF => ⟨rfl, rfl, hR.sU hk2 gS gF, gF.c hk2⟩) (by omega) ⟨zk2, by rw [rpF_0]; exact zk4, (hR.sh hk2).2.2⟩ (fun i h1 h2 => (congrFun eg1 i).trans ((up_n h1).trans (rfl)))
theorem m_hasNothingsThatAreNotTaken {h : AH} {b b2 kd kd2 c c2 d bc bs n : Nat} {f g : Nat → Int32} {s t s2 t2 : Int32} (hS : ShF h b kd f c s t) (gS : ShF h b2 kd2 g c2 s2 t2) (hK : KdF h kd2) (hd : 2 ≤ d) : SM SR0 MX3_hasNothingsThatAreNotTaken d bc bs [.ref b, .ref b2] h n (Det (rI (bI ((fpN f 100 0 c).isSome && !(decide ((100 : Int32) ≠ 100) || kN kd2)))) h n) := by
  refine sm_of pn_Overwalks rfl (Nat.le_of_ble_eq_true rfl) ?_
  refine sw_aload_n (pc' := 1) rfl dX3_hasNothingsThatAreNotTaken_0 rfl ?_
  refine sw_bipush (pc' := 3) (v := 100) rfl dX3_hasNothingsThatAreNotTaken_1 (by decide +kernel) ?_
  refine sw_V (M' := MX1_holds) (d' := d - 1) (bc' := 0) (bs' := 0) (ci := 2) (as := [_]) dX3_hasNothingsThatAreNotTaken_3 w_530 ok_X1_holds (m_holds hS (by omega)) hS.1 rfl (by omega) (Nat.le_of_ble_eq_true rfl) (Nat.zero_le _) (Nat.zero_le _) (fun E h' n' _ z => det_x z) (det_k ?_)
  refine sw_if_eq (pc' := 9) (tgt := 22) rfl dX3_hasNothingsThatAreNotTaken_6 (by decide +kernel) (fun c6 => ?_) (fun c6 => ?_)
  · refine sw_iconst (pc' := 23) (v := 0) rfl dX3_hasNothingsThatAreNotTaken_22 (by decide +kernel) ?_
    refine sw_ret (v := some _) ⟨dX3_hasNothingsThatAreNotTaken_23, _, rfl, rfl⟩ ?_
    exact ⟨by rw [bI_0 c6]; rfl, rfl, rfl⟩
  · refine sw_aload_n (pc' := 10) rfl dX3_hasNothingsThatAreNotTaken_9 rfl ?_
    refine sw_bipush (pc' := 12) (v := 100) rfl dX3_hasNothingsThatAreNotTaken_10 (by decide +kernel) ?_
    refine sw_V (M' := MX1_takesIn) (d' := d - 1) (bc' := 0) (bs' := 0) (ci := 2) (as := [_]) dX3_hasNothingsThatAreNotTaken_12 w_435 ok_X1_takesIn (m_takesIn gS hK) gS.1 rfl (by omega) (Nat.le_of_ble_eq_true rfl) (Nat.zero_le _) (Nat.zero_le _) (fun E h' n' _ z => det_x z) (det_k ?_)
    refine sw_if_ne (pc' := 18) (tgt := 22) rfl dX3_hasNothingsThatAreNotTaken_15 (by decide +kernel) (fun c15 => ?_) (fun c15 => ?_)
    · refine sw_iconst (pc' := 23) (v := 0) rfl dX3_hasNothingsThatAreNotTaken_22 (by decide +kernel) ?_
      refine sw_ret (v := some _) ⟨dX3_hasNothingsThatAreNotTaken_23, _, rfl, rfl⟩ ?_
      exact ⟨by rw [bI_1 c15, Bool.not_true, Bool.and_false]; rfl, rfl, rfl⟩
    · refine sw_iconst (pc' := 19) (v := 1) rfl dX3_hasNothingsThatAreNotTaken_18 (by decide +kernel) ?_
      refine sw_goto (tgt := 23) dX3_hasNothingsThatAreNotTaken_19 (by decide +kernel) ?_
      refine sw_ret (v := some _) ⟨dX3_hasNothingsThatAreNotTaken_23, _, rfl, rfl⟩ ?_
      exact ⟨by rw [bI_1 c6, bI_0 c15]; rfl, rfl, rfl⟩
theorem m_cannotPour {h : AH} {b b2 kd kd2 c c2 d bc bs n : Nat} {f g : Nat → Int32} {s t s2 t2 : Int32} (hS : ShF h b kd f c s t) (gS : ShF h b2 kd2 g c2 s2 t2) (hK : KdF h kd2) (hd : 3 ≤ d) : SM SR0 MX3_cannotPour d bc bs [.ref b, .ref b2] h n (Det (rI (bI (decide (kd2 = 5) || ((fpN f 100 0 c).isSome && !(decide ((100 : Int32) ≠ 100) || kN kd2))))) h n) := by
  refine sm_of pn_Overwalks rfl (Nat.le_of_ble_eq_true rfl) ?_
  refine sw_aload_n (pc' := 1) rfl dX3_cannotPour_0 rfl ?_
  refine sw_V (M' := MX1_isOfTable) (d' := d - 1) (bc' := 0) (bs' := 0) (ci := 2) (as := []) dX3_cannotPour_1 w_430 ok_X1_isOfTable (m_isOfTable gS hK.1) gS.1 rfl (by omega) (Nat.le_of_ble_eq_true rfl) (Nat.zero_le _) (Nat.zero_le _) (fun E h' n' _ z => det_x z) (det_k ?_)
  refine sw_if_ne (pc' := 7) (tgt := 15) rfl dX3_cannotPour_4 (by decide +kernel) (fun c4 => ?_) (fun c4 => ?_)
  · refine sw_iconst (pc' := 16) (v := 1) rfl dX3_cannotPour_15 (by decide +kernel) ?_
    refine sw_goto (tgt := 20) dX3_cannotPour_16 (by decide +kernel) ?_
    refine sw_ret (v := some _) ⟨dX3_cannotPour_20, _, rfl, rfl⟩ ?_
    exact ⟨by rw [bI_1 c4, Bool.true_or]; rfl, rfl, rfl⟩
  · refine sw_aload_n (pc' := 8) rfl dX3_cannotPour_7 rfl ?_
    refine sw_aload_n (pc' := 9) rfl dX3_cannotPour_8 rfl ?_
    refine sw_S (M' := MX3_hasNothingsThatAreNotTaken) (d' := d - 1) (bc' := 0) (bs' := 0) (as := [_, _]) dX3_cannotPour_9 w_527 ok_X3_hasNothingsThatAreNotTaken (m_hasNothingsThatAreNotTaken hS gS hK (by omega)) (by omega) (Nat.le_of_ble_eq_true rfl) (Nat.zero_le _) (Nat.zero_le _) (fun E h' n' _ z => det_x z) (det_k ?_)
    refine sw_if_eq (pc' := 15) (tgt := 19) rfl dX3_cannotPour_12 (by decide +kernel) (fun c12 => ?_) (fun c12 => ?_)
    · refine sw_iconst (pc' := 20) (v := 0) rfl dX3_cannotPour_19 (by decide +kernel) ?_
      refine sw_ret (v := some _) ⟨dX3_cannotPour_20, _, rfl, rfl⟩ ?_
      exact ⟨by rw [bI_0 c12, Bool.or_false, bI_0 c4]; rfl, rfl, rfl⟩
    · refine sw_iconst (pc' := 16) (v := 1) rfl dX3_cannotPour_15 (by decide +kernel) ?_
      refine sw_goto (tgt := 20) dX3_cannotPour_16 (by decide +kernel) ?_
      refine sw_ret (v := some _) ⟨dX3_cannotPour_20, _, rfl, rfl⟩ ?_
      exact ⟨by rw [bI_1 c12, Bool.or_true]; rfl, rfl, rfl⟩
theorem l_pourBehind {d bc bs n k j : Nat} {z : Int32} {h0 : AH} (hk : k < 11) (hj : j < 11) (hd : 3 ≤ d) (m : Nat) : ∀ (i : Nat) (h : AH) (w : Bool) (σ : CS), i + m ≤ 12 → σ.2.1 j + m ≤ 12 → RC h σ → FrC h0 h n → SW SR0 MX3_pourBehind d bc bs 11 [(5, .int (nI i)), (4, .int (bI w)), (3, .int (nI (i + m))), (0, .ref (102 + 2 * k)), (1, .int z), (2, .ref (102 + 2 * j))] [] h n (CP h0 n (rI (bI (pbM k j i m w σ).1), (pbM k j i m w σ).2)) := by
  induction m with
  | zero =>
    intro i h w σ hi hm hR hF
    refine sw_iload (pc' := 13) rfl dX3_pourBehind_11 rfl ?_
    refine sw_iload_n (pc' := 14) rfl dX3_pourBehind_13 rfl ?_
    refine sw_icmp_ge (pc' := 17) (tgt := 39) rfl dX3_pourBehind_14 (by decide +kernel) (fun c14 => ?_) (fun c14 => ?_)
    · refine sw_iload (pc' := 41) rfl dX3_pourBehind_39 rfl ?_
      refine sw_ret (v := some _) ⟨dX3_pourBehind_41, _, rfl, bI_i⟩ ?_
      exact ⟨rfl, rfl, hR, hF⟩
    · exact absurd (Int32.le_refl _) c14
  | succ m ih =>
    intro i h w σ hi hm hR hF
    refine sw_iload (pc' := 13) rfl dX3_pourBehind_11 rfl ?_
    refine sw_iload_n (pc' := 14) rfl dX3_pourBehind_13 rfl ?_
    refine sw_icmp_ge (pc' := 17) (tgt := 39) rfl dX3_pourBehind_14 (by decide +kernel) (fun c14 => ?_) (fun c14 => ?_)
    · exact absurd c14 (nI_ge (by omega) (by omega))
    · refine sw_aload_n (pc' := 18) rfl dX3_pourBehind_17 rfl ?_
      refine sw_aload_n (pc' := 19) rfl dX3_pourBehind_18 rfl ?_
      refine sw_iload (pc' := 21) rfl dX3_pourBehind_19 rfl ?_
      refine sw_V (M' := MX1_thingAt) (d' := d - 1) (bc' := 0) (bs' := 0) (ci := 2) (as := [_]) dX3_pourBehind_21 w_230 ok_X1_thingAt (m_thingAt (hR.sh hk)) (hR.sh hk).1 rfl (by omega) (Nat.le_of_ble_eq_true rfl) (Nat.zero_le _) (Nat.zero_le _) (fun E h' n' _ z => det_x z) (det_k ?_)
      refine sw_V (M' := MX1_layDown) (d' := d - 1) (bc' := 0) (bs' := 0) (ci := 2) (as := [_]) dX3_pourBehind_24 w_443 ok_X1_layDown (m_layDown (hR.sh hj) (hR.kd kdO_r) (by omega) (by omega)) (hR.sh hj).1 rfl (by omega) (Nat.le_of_ble_eq_true rfl) (Nat.zero_le _) (Nat.zero_le _) (fun E h' n' _ z => shp_x z) (shp_k (fun p pS pF => ?_))
      refine sw_if_eq (pc' := 30) (tgt := 33) rfl dX3_pourBehind_27 (by decide +kernel) (fun c27 => ?_) (fun c27 => ?_)
      · refine sw_iinc (pc' := 36) (lv' := [(5, _), (4, _), (3, _), (0, _), (1, _), (2, _)]) (v := nI (i + 1)) rfl dX3_pourBehind_33 rfl (nI_succ i).symm (by decide +kernel) rfl ?_
        refine sw_goto (tgt := 11) dX3_pourBehind_36 (by decide +kernel) ?_
        have hu := ldU_c (σ := σ) (k := j) (x := (taI (σ.1 k) (σ.2.1 k) (nI i)))
        have g := ih (i + 1) p (w || ldY (σ.1 j) (σ.2.1 j) (kdO j) (taI (σ.1 k) (σ.2.1 k) (nI i))) (ldU σ j (taI (σ.1 k) (σ.2.1 k) (nI i))) (by omega) (by omega) (hR.ldS hj pS pF) (hF.tr (pF.c hj) (Nat.le_refl _))
        rw [show i + 1 + m = i + (m + 1) by omega] at g
        rw [pbM]
        rw [bI_0 c27, Bool.or_false] at g
        rw [bI_0 c27, Bool.or_false]
        exact g
      · refine sw_iconst (pc' := 31) (v := 1) rfl dX3_pourBehind_30 (by decide +kernel) ?_
        refine sw_istore (pc' := 33) (lv' := [(4, _), (5, _), (3, _), (0, _), (1, _), (2, _)]) rfl dX3_pourBehind_31 (by decide +kernel) rfl ?_
        refine sw_iinc (pc' := 36) (lv' := [(5, _), (4, _), (3, _), (0, _), (1, _), (2, _)]) (v := nI (i + 1)) rfl dX3_pourBehind_33 rfl (nI_succ i).symm (by decide +kernel) rfl ?_
        refine sw_goto (tgt := 11) dX3_pourBehind_36 (by decide +kernel) ?_
        have hu := ldU_c (σ := σ) (k := j) (x := (taI (σ.1 k) (σ.2.1 k) (nI i)))
        have g := ih (i + 1) p (w || ldY (σ.1 j) (σ.2.1 j) (kdO j) (taI (σ.1 k) (σ.2.1 k) (nI i))) (ldU σ j (taI (σ.1 k) (σ.2.1 k) (nI i))) (by omega) (by omega) (hR.ldS hj pS pF) (hF.tr (pF.c hj) (Nat.le_refl _))
        rw [show i + 1 + m = i + (m + 1) by omega] at g
        rw [pbM]
        rw [bI_1 c27, Bool.or_true] at g
        rw [bI_1 c27, Bool.or_true]
        exact g
theorem m_pourBehind {h : AH} {σ : CS} {d bc bs n k j i : Nat} (hR : RC h σ) (hk : k < 11) (hj : j < 11) (hi : i ≤ σ.2.1 k) (hr : σ.2.1 j + (σ.2.1 k - i) ≤ 12) (hd : 3 ≤ d) : SM SR0 MX3_pourBehind d bc bs [.ref (102 + 2 * k), .int (nI i), .ref (102 + 2 * j)] h n (CP h n (rI (bI (pbM k j i (σ.2.1 k - i) false σ).1), (pbM k j i (σ.2.1 k - i) false σ).2)) := by
  have hc := (hR.sh hk).2.2.1
  refine sm_of pn_Overwalks rfl (Nat.le_of_ble_eq_true rfl) ?_
  refine sw_aload_n (pc' := 1) rfl dX3_pourBehind_0 rfl ?_
  refine sw_getf (ci := 2) (k := 2) (pc' := 4) rfl dX3_pourBehind_1 (by decide +kernel) w_84 (hR.sh hk).1 rfl ?_
  refine sw_istore_n (pc' := 5) (lv' := [(3, _), (0, _), (1, _), (2, _)]) rfl dX3_pourBehind_4 (by decide +kernel) rfl ?_
  refine sw_iconst (pc' := 6) (v := 0) rfl dX3_pourBehind_5 (by decide +kernel) ?_
  refine sw_istore (pc' := 8) (lv' := [(4, _), (3, _), (0, _), (1, _), (2, _)]) rfl dX3_pourBehind_6 (by decide +kernel) rfl ?_
  refine sw_iload_n (pc' := 9) rfl dX3_pourBehind_8 rfl ?_
  refine sw_istore (pc' := 11) (lv' := [(5, _), (4, _), (3, _), (0, _), (1, _), (2, _)]) rfl dX3_pourBehind_9 (by decide +kernel) rfl ?_
  have g := l_pourBehind (d := d) (bc := bc) (bs := bs) (n := n) (z := nI i) (h0 := h) hk hj hd (σ.2.1 k - i) i h false σ (by omega) hr hR FrC.rf
  rw [Nat.add_sub_cancel' hi] at g
  exact g
theorem m_pour {h : AH} {σ : CS} {d bc bs n : Nat} {a b : Int32} (hR : RC h σ) (hd : 6 ≤ d) (hb1 : 20 ≤ bc) (hb2 : 200 ≤ bs) : SM SR0 MX3_pour d bc bs [.ref 100, .int a, .int b] h n (CP h n (opPour σ a b)) := by
  refine sm_of pn_Overwalks rfl (Nat.le_of_ble_eq_true rfl) ?_
  refine sw_aload_n (pc' := 1) rfl dX3_pour_0 rfl ?_
  refine sw_iload_n (pc' := 2) rfl dX3_pour_1 rfl ?_
  rcases idxN 11 (by decide +kernel) a with q2 | ⟨k2, hk2, q2⟩
  · refine sw_V (M' := MX3_shelfAt) (d' := d - 1) (bc' := 1) (bs' := 6) (ci := 4) (as := [_]) dX3_pour_2 w_402 ok_X3_shelfAt (m_shelfAt_x hR (Nat.le_refl _) (Nat.le_refl _) q2) hR.1 rfl (by omega) (Nat.le_of_ble_eq_true rfl) (by omega) (by omega) (dx_x (swx_out rfl ?_)) (fun v h' n' _ z => dx_k z)
    rw [opPour, onSh_x q2]
    exact ⟨rfl, rfl, hR, FrC.rf⟩
  subst q2
  refine sw_V (M' := MX3_shelfAt) (d' := d - 1) (bc' := 1) (bs' := 6) (ci := 4) (as := [_]) dX3_pour_2 w_402 ok_X3_shelfAt (m_shelfAt_k hR (Nat.le_refl _) (Nat.le_refl _) hk2) hR.1 rfl (by omega) (Nat.le_of_ble_eq_true rfl) (by omega) (by omega) (fun E h' n' _ z => det_x z) (det_k ?_)
  refine sw_astore_n (pc' := 6) (lv' := [(3, _), (0, _), (1, _), (2, _)]) rfl dX3_pour_5 (by decide +kernel) rfl ?_
  refine sw_aload_n (pc' := 7) rfl dX3_pour_6 rfl ?_
  refine sw_iload_n (pc' := 8) rfl dX3_pour_7 rfl ?_
  rcases idxN 11 (by decide +kernel) b with q8 | ⟨k8, hk8, q8⟩
  · refine sw_V (M' := MX3_shelfAt) (d' := d - 1) (bc' := 1) (bs' := 6) (ci := 4) (as := [_]) dX3_pour_8 w_402 ok_X3_shelfAt (m_shelfAt_x hR (Nat.le_refl _) (Nat.le_refl _) q8) hR.1 rfl (by omega) (Nat.le_of_ble_eq_true rfl) (by omega) (by omega) (dx_x (swx_out rfl ?_)) (fun v h' n' _ z => dx_k z)
    rw [opPour, onSh_k hk2, onSh_x q8]
    exact ⟨rfl, rfl, hR, FrC.rf⟩
  subst q8
  refine sw_V (M' := MX3_shelfAt) (d' := d - 1) (bc' := 1) (bs' := 6) (ci := 4) (as := [_]) dX3_pour_8 w_402 ok_X3_shelfAt (m_shelfAt_k hR (Nat.le_refl _) (Nat.le_refl _) hk8) hR.1 rfl (by omega) (Nat.le_of_ble_eq_true rfl) (by omega) (by omega) (fun E h' n' _ z => det_x z) (det_k ?_)
  refine sw_astore (pc' := 13) (lv' := [(4, _), (3, _), (0, _), (1, _), (2, _)]) rfl dX3_pour_11 (by decide +kernel) rfl ?_
  refine sw_aload (pc' := 15) rfl dX3_pour_13 rfl ?_
  refine sw_aload_n (pc' := 16) rfl dX3_pour_15 rfl ?_
  refine sw_getf (ci := 2) (k := 2) (pc' := 19) rfl dX3_pour_16 (by decide +kernel) w_84 (hR.sh hk2).1 rfl ?_
  rcases Classical.em (12 < nI (σ.2.1 k8) + nI (σ.2.1 k2)) with q19 | q19
  · refine sw_S (M' := MX3_requireRoom) (d' := d - 1) (bc' := 1) (bs' := 6) (as := [_, _]) dX3_pour_19 w_411 ok_X3_requireRoom (m_requireRoom_x (hR.sh hk8) (Nat.le_refl _) (Nat.le_refl _) q19) (by omega) (Nat.le_of_ble_eq_true rfl) (by omega) (by omega) (dx_x (swx_out rfl ?_)) (fun v h' n' _ z => dx_k z)
    rw [opPour, onSh_k hk2, onSh_k hk8, if_pos q19]
    exact ⟨rfl, rfl, hR, FrC.rf⟩
  refine sw_S (M' := MX3_requireRoom) (d' := d - 1) (bc' := 1) (bs' := 6) (as := [_, _]) dX3_pour_19 w_411 ok_X3_requireRoom (m_requireRoom_k (hR.sh hk8) (Nat.le_refl _) (Nat.le_refl _) q19) (by omega) (Nat.le_of_ble_eq_true rfl) (by omega) (by omega) (fun E h' n' _ z => det_x z) (det_k ?_)
  refine sw_aload_n (pc' := 23) rfl dX3_pour_22 rfl ?_
  refine sw_aload (pc' := 25) rfl dX3_pour_23 rfl ?_
  refine sw_S (M' := MX3_cannotPour) (d' := d - 1) (bc' := 0) (bs' := 0) (as := [_, _]) dX3_pour_25 w_524 ok_X3_cannotPour (m_cannotPour (hR.sh hk2) (hR.sh hk8) (hR.kd kdO_r) (by omega)) (by omega) (Nat.le_of_ble_eq_true rfl) (Nat.zero_le _) (Nat.zero_le _) (fun E h' n' _ z => det_x z) (det_k ?_)
  refine sw_if_eq (pc' := 31) (tgt := 36) rfl dX3_pour_28 (by decide +kernel) (fun c28 => ?_) (fun c28 => ?_)
  · have hc2 := (hR.sh hk2).2.2.1
    have hrm := nI_room (hR.sh hk8).2.2.1 hc2 q19
    refine sw_aload_n (pc' := 37) rfl dX3_pour_36 rfl ?_
    refine sw_iconst (pc' := 38) (v := 0) rfl dX3_pour_37 (by decide +kernel) ?_
    refine sw_aload (pc' := 40) rfl dX3_pour_38 rfl ?_
    refine sw_S (M' := MX3_pourBehind) (d' := d - 1) (bc' := 0) (bs' := 0) (as := [_, _, _]) dX3_pour_40 w_531 ok_X3_pourBehind (m_pourBehind (i := 0) hR hk2 hk8 (Nat.zero_le _) hrm (by omega)) (by omega) (Nat.le_of_ble_eq_true rfl) (Nat.zero_le _) (Nat.zero_le _) (fun E h' n' _ z => cp_x z) (cp_k (fun p pR pF => ?_))
    refine sw_S (M' := MX3_oneIf) (d' := d - 1) (bc' := 0) (bs' := 0) (as := [_]) dX3_pour_43 w_277 ok_X3_oneIf (m_oneIf) (by omega) (Nat.le_of_ble_eq_true rfl) (by omega) (by omega) (fun E h' n' _ z => det_x z) (det_k ?_)
    refine sw_ret (v := some _) ⟨dX3_pour_46, _, rfl, rfl⟩ ?_
    rw [opPour, onSh_k hk2, onSh_k hk8, if_neg q19, if_neg (show ¬ cpB σ k2 k8 = true from by rw [show cpB σ k2 k8 = false from bI_0 c28]; decide)]
    exact ⟨rfl, rfl, pR, pF⟩
  · refine sw_aload_n (pc' := 32) rfl dX3_pour_31 rfl ?_
    refine sw_V (M' := MX3_refuse) (d' := d - 1) (bc' := 0) (bs' := 0) (ci := 4) (as := []) dX3_pour_32 w_439 ok_X3_refuse (m_refuse hR) hR.1 rfl (by omega) (Nat.le_of_ble_eq_true rfl) (by omega) (by omega) (fun E h' n' _ z => cp_x z) (cp_k (fun p32 p32R p32F => ?_))
    refine sw_ret (v := some _) ⟨dX3_pour_35, _, rfl, rfl⟩ ?_
    rw [opPour, onSh_k hk2, onSh_k hk8, if_neg q19, if_pos (show cpB σ k2 k8 = true from bI_1 c28)]
    exact ⟨rfl, rfl, p32R, p32F⟩
theorem l_disjoint {h : AH} {σ : CS} {d bc bs n k j : Nat} {a b : Int32} (hR : RC h σ) (hk : k < 11) (hj : j < 11) (hd : 2 ≤ d) (m : Nat) : ∀ (i : Nat), i + m = σ.2.1 k → SW SR0 MX3_disjoint d bc bs 39 [(5, .int (nI i)), (4, .ref (102 + 2 * j)), (3, .ref (102 + 2 * k)), (0, .ref 100), (1, .int a), (2, .int b)] [] h n (CP h n (rI (bI (djB σ k j i m)), σ)) := by
  have hc := (hR.sh hk).2.2.1
  induction m with
  | zero =>
    intro i hi
    have hic : σ.2.1 k = i := by omega
    refine sw_iload (pc' := 41) rfl dX3_disjoint_39 rfl ?_
    refine sw_aload_n (pc' := 42) rfl dX3_disjoint_41 rfl ?_
    refine sw_getf (ci := 2) (k := 2) (pc' := 45) rfl dX3_disjoint_42 (by decide +kernel) w_84 (hR.sh hk).1 rfl ?_
    refine sw_icmp_ge (pc' := 48) (tgt := 70) rfl dX3_disjoint_45 (by decide +kernel) (fun c45 => ?_) (fun c45 => ?_)
    · refine sw_iconst (pc' := 71) (v := 1) rfl dX3_disjoint_70 (by decide +kernel) ?_
      refine sw_ret (v := some _) ⟨dX3_disjoint_71, _, rfl, rfl⟩ ?_
      exact ⟨rfl, rfl, hR, FrC.rf⟩
    · exact absurd (by rw [hic]; exact Int32.le_refl _) c45
  | succ m ih =>
    intro i hi
    have e1 := taI_in (f := σ.1 k) (c := σ.2.1 k) (j := i) (by omega) hc
    refine sw_iload (pc' := 41) rfl dX3_disjoint_39 rfl ?_
    refine sw_aload_n (pc' := 42) rfl dX3_disjoint_41 rfl ?_
    refine sw_getf (ci := 2) (k := 2) (pc' := 45) rfl dX3_disjoint_42 (by decide +kernel) w_84 (hR.sh hk).1 rfl ?_
    refine sw_icmp_ge (pc' := 48) (tgt := 70) rfl dX3_disjoint_45 (by decide +kernel) (fun c45 => ?_) (fun c45 => ?_)
    · exact absurd c45 (nI_ge (by omega) (by omega))
    · refine sw_aload (pc' := 50) rfl dX3_disjoint_48 rfl ?_
      refine sw_aload_n (pc' := 51) rfl dX3_disjoint_50 rfl ?_
      refine sw_iload (pc' := 53) rfl dX3_disjoint_51 rfl ?_
      refine sw_V (M' := MX1_thingAt) (d' := d - 1) (bc' := 0) (bs' := 0) (ci := 2) (as := [_]) dX3_disjoint_53 w_230 ok_X1_thingAt (m_thingAt (hR.sh hk)) (hR.sh hk).1 rfl (by omega) (Nat.le_of_ble_eq_true rfl) (Nat.zero_le _) (Nat.zero_le _) (fun E h' n' _ z => det_x z) (det_k ?_)
      refine sw_V (M' := MX1_holds) (d' := d - 1) (bc' := 0) (bs' := 0) (ci := 2) (as := [_]) dX3_disjoint_56 w_530 ok_X1_holds (m_holds (hR.sh hj) (by omega)) (hR.sh hj).1 rfl (by omega) (Nat.le_of_ble_eq_true rfl) (Nat.zero_le _) (Nat.zero_le _) (fun E h' n' _ z => det_x z) (det_k ?_)
      refine sw_if_eq (pc' := 62) (tgt := 64) rfl dX3_disjoint_59 (by decide +kernel) (fun c59 => ?_) (fun c59 => ?_)
      · refine sw_iinc (pc' := 67) (lv' := [(5, _), (4, _), (3, _), (0, _), (1, _), (2, _)]) (v := nI (i + 1)) rfl dX3_disjoint_64 rfl (nI_succ i).symm (by decide +kernel) rfl ?_
        refine sw_goto (tgt := 39) dX3_disjoint_67 (by decide +kernel) ?_
        rw [e1] at c59
        rw [djB, bI_0 c59, Bool.not_false, Bool.true_and]
        exact ih (i + 1) (by omega)
      · refine sw_iconst (pc' := 63) (v := 0) rfl dX3_disjoint_62 (by decide +kernel) ?_
        refine sw_ret (v := some _) ⟨dX3_disjoint_63, _, rfl, rfl⟩ ?_
        rw [e1] at c59
        rw [djB, bI_1 c59]
        exact ⟨rfl, rfl, hR, FrC.rf⟩
theorem m_disjoint {h : AH} {σ : CS} {d bc bs n : Nat} {a b : Int32} (hR : RC h σ) (hd : 6 ≤ d) (hb1 : 20 ≤ bc) (hb2 : 200 ≤ bs) : SM SR0 MX3_disjoint d bc bs [.ref 100, .int a, .int b] h n (CP h n (opDisjoint σ a b)) := by
  refine sm_of pn_Overwalks rfl (Nat.le_of_ble_eq_true rfl) ?_
  refine sw_aload_n (pc' := 1) rfl dX3_disjoint_0 rfl ?_
  refine sw_iload_n (pc' := 2) rfl dX3_disjoint_1 rfl ?_
  rcases idxN 11 (by decide +kernel) a with q2 | ⟨k2, hk2, q2⟩
  · refine sw_V (M' := MX3_shelfAt) (d' := d - 1) (bc' := 1) (bs' := 6) (ci := 4) (as := [_]) dX3_disjoint_2 w_402 ok_X3_shelfAt (m_shelfAt_x hR (Nat.le_refl _) (Nat.le_refl _) q2) hR.1 rfl (by omega) (Nat.le_of_ble_eq_true rfl) (by omega) (by omega) (dx_x (swx_out rfl ?_)) (fun v h' n' _ z => dx_k z)
    rw [opDisjoint, onSh_x q2]
    exact ⟨rfl, rfl, hR, FrC.rf⟩
  subst q2
  refine sw_V (M' := MX3_shelfAt) (d' := d - 1) (bc' := 1) (bs' := 6) (ci := 4) (as := [_]) dX3_disjoint_2 w_402 ok_X3_shelfAt (m_shelfAt_k hR (Nat.le_refl _) (Nat.le_refl _) hk2) hR.1 rfl (by omega) (Nat.le_of_ble_eq_true rfl) (by omega) (by omega) (fun E h' n' _ z => det_x z) (det_k ?_)
  refine sw_astore_n (pc' := 6) (lv' := [(3, _), (0, _), (1, _), (2, _)]) rfl dX3_disjoint_5 (by decide +kernel) rfl ?_
  refine sw_aload_n (pc' := 7) rfl dX3_disjoint_6 rfl ?_
  refine sw_iload_n (pc' := 8) rfl dX3_disjoint_7 rfl ?_
  rcases idxN 11 (by decide +kernel) b with q8 | ⟨k8, hk8, q8⟩
  · refine sw_V (M' := MX3_shelfAt) (d' := d - 1) (bc' := 1) (bs' := 6) (ci := 4) (as := [_]) dX3_disjoint_8 w_402 ok_X3_shelfAt (m_shelfAt_x hR (Nat.le_refl _) (Nat.le_refl _) q8) hR.1 rfl (by omega) (Nat.le_of_ble_eq_true rfl) (by omega) (by omega) (dx_x (swx_out rfl ?_)) (fun v h' n' _ z => dx_k z)
    rw [opDisjoint, onSh_k hk2, onSh_x q8]
    exact ⟨rfl, rfl, hR, FrC.rf⟩
  subst q8
  refine sw_V (M' := MX3_shelfAt) (d' := d - 1) (bc' := 1) (bs' := 6) (ci := 4) (as := [_]) dX3_disjoint_8 w_402 ok_X3_shelfAt (m_shelfAt_k hR (Nat.le_refl _) (Nat.le_refl _) hk8) hR.1 rfl (by omega) (Nat.le_of_ble_eq_true rfl) (by omega) (by omega) (fun E h' n' _ z => det_x z) (det_k ?_)
  refine sw_astore (pc' := 13) (lv' := [(4, _), (3, _), (0, _), (1, _), (2, _)]) rfl dX3_disjoint_11 (by decide +kernel) rfl ?_
  refine sw_aload_n (pc' := 14) rfl dX3_disjoint_13 rfl ?_
  refine sw_aload (pc' := 16) rfl dX3_disjoint_14 rfl ?_
  refine sw_S (M' := MX3_hasNothingsThatAreNotTaken) (d' := d - 1) (bc' := 0) (bs' := 0) (as := [_, _]) dX3_disjoint_16 w_527 ok_X3_hasNothingsThatAreNotTaken (m_hasNothingsThatAreNotTaken (hR.sh hk2) (hR.sh hk8) (hR.kd kdO_r) (by omega)) (by omega) (Nat.le_of_ble_eq_true rfl) (Nat.zero_le _) (Nat.zero_le _) (fun E h' n' _ z => det_x z) (det_k ?_)
  refine sw_if_ne (pc' := 22) (tgt := 31) rfl dX3_disjoint_19 (by decide +kernel) (fun c19 => ?_) (fun c19 => ?_)
  · refine sw_aload_n (pc' := 32) rfl dX3_disjoint_31 rfl ?_
    refine sw_V (M' := MX3_refuse) (d' := d - 1) (bc' := 0) (bs' := 0) (ci := 4) (as := []) dX3_disjoint_32 w_439 ok_X3_refuse (m_refuse hR) hR.1 rfl (by omega) (Nat.le_of_ble_eq_true rfl) (by omega) (by omega) (fun E h' n' _ z => cp_x z) (cp_k (fun p32 p32R p32F => ?_))
    refine sw_ret (v := some _) ⟨dX3_disjoint_35, _, rfl, rfl⟩ ?_
    rw [opDisjoint, onSh_k hk2, onSh_k hk8, if_pos (Or.inl (show nnB σ k2 k8 = true from bI_1 c19))]
    exact ⟨rfl, rfl, p32R, p32F⟩
  · refine sw_aload (pc' := 24) rfl dX3_disjoint_22 rfl ?_
    refine sw_aload_n (pc' := 25) rfl dX3_disjoint_24 rfl ?_
    refine sw_S (M' := MX3_hasNothingsThatAreNotTaken) (d' := d - 1) (bc' := 0) (bs' := 0) (as := [_, _]) dX3_disjoint_25 w_527 ok_X3_hasNothingsThatAreNotTaken (m_hasNothingsThatAreNotTaken (hR.sh hk8) (hR.sh hk2) (hR.kd kdO_r) (by omega)) (by omega) (Nat.le_of_ble_eq_true rfl) (Nat.zero_le _) (Nat.zero_le _) (fun E h' n' _ z => det_x z) (det_k ?_)
    refine sw_if_eq (pc' := 31) (tgt := 36) rfl dX3_disjoint_28 (by decide +kernel) (fun c28 => ?_) (fun c28 => ?_)
    · refine sw_iconst (pc' := 37) (v := 0) rfl dX3_disjoint_36 (by decide +kernel) ?_
      refine sw_istore (pc' := 39) (lv' := [(5, _), (4, _), (3, _), (0, _), (1, _), (2, _)]) rfl dX3_disjoint_37 (by decide +kernel) rfl ?_
      rw [opDisjoint, onSh_k hk2, onSh_k hk8, if_neg (fun q => q.elim (fun e => Bool.noConfusion ((show nnB σ k2 k8 = false from bI_0 c19).symm.trans e)) (fun e => Bool.noConfusion ((show nnB σ k8 k2 = false from bI_0 c28).symm.trans e)))]
      exact l_disjoint hR hk2 hk8 (by omega) _ 0 (by omega)
    · refine sw_aload_n (pc' := 32) rfl dX3_disjoint_31 rfl ?_
      refine sw_V (M' := MX3_refuse) (d' := d - 1) (bc' := 0) (bs' := 0) (ci := 4) (as := []) dX3_disjoint_32 w_439 ok_X3_refuse (m_refuse hR) hR.1 rfl (by omega) (Nat.le_of_ble_eq_true rfl) (by omega) (by omega) (fun E h' n' _ z => cp_x z) (cp_k (fun p32 p32R p32F => ?_))
      refine sw_ret (v := some _) ⟨dX3_disjoint_35, _, rfl, rfl⟩ ?_
      rw [opDisjoint, onSh_k hk2, onSh_k hk8, if_pos (Or.inr (show nnB σ k8 k2 = true from bI_1 c28))]
      exact ⟨rfl, rfl, p32R, p32F⟩
end
section
/-! 23.ops -/
/-! counts, house, ofWalk, end -/
def ctN (g : Nat → Int32) : Nat → Nat → Int32 → Int32
  | _, 0, v => v
  | j, m + 1, v => ctN g (j + 1) m (v + g j)
def cnT (σ : CS) : Int32 := ctN (fun j => nI (σ.2.1 j)) 0 11 0
def cnN (σ : CS) : Int32 := ctN (fun j => nI (coN (σ.1 j) 100 0 (σ.2.1 j))) 0 11 0
def cnW (σ : CS) : Int32 := ctN (fun j => bI (σ.2.2.2.2.1 j).1) 0 6 0
def cnS (σ : CS) : Int32 := ctN (fun j => bI ((σ.2.2.2.2.1 j).1 && wSt σ j)) 0 6 0
def opHouse (σ : CS) (x : Int32) : ARes × CS := if x = 0 then (rI (cnT σ), σ) else if x = 1 then (rI (cnN σ), σ) else if x = 2 then (rI (cnW σ), σ) else if x = 3 then (rI (cnS σ), σ) else if x = 4 then (rI σ.2.2.2.2.2.1, σ) else if x = 5 then (rI σ.2.2.2.2.2.2, σ) else (xA, σ)
def opOfWalk (σ : CS) (a x : Int32) : ARes × CS := onWk a σ (fun k => if x < 0 ∨ 3 < x then (xA, σ) else if (σ.2.2.2.2.1 k).1 = false then (rI (-1), σ) else (rI (if x = 0 then nI (wO σ k) else if x = 1 then (σ.2.2.2.2.1 k).2.2.1 else if x = 2 then (σ.2.2.2.2.1 k).2.2.2.1 else bI (wSt σ k)), σ))
theorem ne_toInt {x y : Int32} (h : ¬ x = y) : x.toInt ≠ y.toInt := fun e => h (Int32.toInt_inj.mp e)
theorem ts3 {x : Int32} (h0 : ¬ x = 0) (h1 : ¬ x = 1) (h2 : ¬ x = 2) : x.toInt < 0 ∨ 2 < x.toInt := by
  have g0 : x.toInt ≠ 0 := ne_toInt h0
  have g1 : x.toInt ≠ 1 := ne_toInt h1
  have g2 : x.toInt ≠ 2 := ne_toInt h2
  omega
theorem ts6 {x : Int32} (h0 : ¬ x = 0) (h1 : ¬ x = 1) (h2 : ¬ x = 2) (h3 : ¬ x = 3) (h4 : ¬ x = 4) (h5 : ¬ x = 5) : x.toInt < 0 ∨ 5 < x.toInt := by
  have g0 : x.toInt ≠ 0 := ne_toInt h0
  have g1 : x.toInt ≠ 1 := ne_toInt h1
  have g2 : x.toInt ≠ 2 := ne_toInt h2
  have g3 : x.toInt ≠ 3 := ne_toInt h3
  have g4 : x.toInt ≠ 4 := ne_toInt h4
  have g5 : x.toInt ≠ 5 := ne_toInt h5
  omega
def minI (x y : Int32) : Int32 := if y < x then y else x
def maxI (x y : Int32) : Int32 := if x < y then y else x
def edN (y : Int32) (f : Nat → Int32) : Nat → Nat → Int32 → Int32
  | _, 0, v => v
  | j, m + 1, v => edN y f (j + 1) m (if y = 0 then maxI v (f j) else minI v (f j))
def opEnd (σ : CS) (a y : Int32) : ARes × CS := onSh a σ (fun k => if σ.2.1 k = 0 ∨ (fpN (σ.1 k) 100 0 (σ.2.1 k)).isSome = true then (rI (-9), rfU σ) else (rI (edN y (σ.1 k) 1 (σ.2.1 k - 1) (σ.1 k 0)), σ))
theorem l_countThings {h : AH} {σ : CS} {d bc bs n : Nat} (hR : RC h σ) (hd : 1 ≤ d) (m : Nat) : ∀ (j : Nat) (v : Int32), j + m = 11 → SW SR0 MX3_countThings d bc bs 4 [(2, .int (nI j)), (1, .int v), (0, .ref 100)] [] h n (Det (rI (ctN (fun j => nI (σ.2.1 j)) j m v)) h n) := by
  obtain ⟨g, ga, gb⟩ := hR.2.1
  induction m with
  | zero =>
    intro j v hj
    have hjc : j = 11 := by omega
    subst hjc
    refine sw_iload_n (pc' := 5) rfl dX3_countThings_4 rfl ?_
    refine sw_bipush (pc' := 7) (v := 11) rfl dX3_countThings_5 (by decide +kernel) ?_
    refine sw_icmp_ge (pc' := 10) (tgt := 28) rfl dX3_countThings_7 (by decide +kernel) (fun c7 => ?_) (fun c7 => ?_)
    · refine sw_iload_n (pc' := 29) rfl dX3_countThings_28 rfl ?_
      refine sw_ret (v := some _) ⟨dX3_countThings_29, _, rfl, rfl⟩ ?_
      exact ⟨rfl, rfl, rfl⟩
    · exact absurd (Int32.le_refl (nI 11)) c7
  | succ m ih =>
    intro j v hm
    have hj : j < 11 := by omega
    rw [ctN]
    refine sw_iload_n (pc' := 5) rfl dX3_countThings_4 rfl ?_
    refine sw_bipush (pc' := 7) (v := 11) rfl dX3_countThings_5 (by decide +kernel) ?_
    refine sw_icmp_ge (pc' := 10) (tgt := 28) rfl dX3_countThings_7 (by decide +kernel) (fun c7 => ?_) (fun c7 => ?_)
    · exact absurd c7 (nI_ge (b := 11) (by omega) (by decide +kernel))
    · refine sw_iload_n (pc' := 11) rfl dX3_countThings_10 rfl ?_
      refine sw_aload_n (pc' := 12) rfl dX3_countThings_11 rfl ?_
      refine sw_getf (ci := 4) (k := 0) (pc' := 15) rfl dX3_countThings_12 (by decide +kernel) w_150 hR.1 rfl ?_
      refine sw_iload_n (pc' := 16) rfl dX3_countThings_15 rfl ?_
      refine sw_aald (pc' := 17) rfl dX3_countThings_16 ga (by decide +kernel) (by decide +kernel) rfl hj (by decide +kernel) (gb j hj) ?_
      refine sw_getf (ci := 2) (k := 2) (pc' := 20) rfl dX3_countThings_17 (by decide +kernel) w_84 (hR.sh hj).1 rfl ?_
      refine sw_iadd (pc' := 21) rfl dX3_countThings_20 ?_
      refine sw_istore_n (pc' := 22) (lv' := [(1, _), (2, _), (0, _)]) rfl dX3_countThings_21 (by decide +kernel) rfl ?_
      refine sw_iinc (pc' := 25) (lv' := [(2, _), (1, _), (0, _)]) (v := nI (j + 1)) rfl dX3_countThings_22 rfl (nI_succ j).symm (by decide +kernel) rfl ?_
      refine sw_goto (tgt := 4) dX3_countThings_25 (by decide +kernel) ?_
      exact ih (j + 1) _ (by omega)
theorem m_countThings {h : AH} {σ : CS} {d bc bs n : Nat} (hR : RC h σ) (hd : 1 ≤ d) : SM SR0 MX3_countThings d bc bs [.ref 100] h n (Det (rI (cnT σ)) h n) := by
  refine sm_of pn_Overwalks rfl (Nat.le_of_ble_eq_true rfl) ?_
  refine sw_iconst (pc' := 1) (v := 0) rfl dX3_countThings_0 (by decide +kernel) ?_
  refine sw_istore_n (pc' := 2) (lv' := [(1, _), (0, _)]) rfl dX3_countThings_1 (by decide +kernel) rfl ?_
  refine sw_iconst (pc' := 3) (v := 0) rfl dX3_countThings_2 (by decide +kernel) ?_
  refine sw_istore_n (pc' := 4) (lv' := [(2, _), (1, _), (0, _)]) rfl dX3_countThings_3 (by decide +kernel) rfl ?_
  exact l_countThings hR hd 11 0 0 rfl
theorem l_countNothings {h : AH} {σ : CS} {d bc bs n : Nat} (hR : RC h σ) (hd : 1 ≤ d) (m : Nat) : ∀ (j : Nat) (v : Int32), j + m = 11 → SW SR0 MX3_countNothings d bc bs 4 [(2, .int (nI j)), (1, .int v), (0, .ref 100)] [] h n (Det (rI (ctN (fun j => nI (coN (σ.1 j) 100 0 (σ.2.1 j))) j m v)) h n) := by
  obtain ⟨g, ga, gb⟩ := hR.2.1
  induction m with
  | zero =>
    intro j v hj
    have hjc : j = 11 := by omega
    subst hjc
    refine sw_iload_n (pc' := 5) rfl dX3_countNothings_4 rfl ?_
    refine sw_bipush (pc' := 7) (v := 11) rfl dX3_countNothings_5 (by decide +kernel) ?_
    refine sw_icmp_ge (pc' := 10) (tgt := 30) rfl dX3_countNothings_7 (by decide +kernel) (fun c7 => ?_) (fun c7 => ?_)
    · refine sw_iload_n (pc' := 31) rfl dX3_countNothings_30 rfl ?_
      refine sw_ret (v := some _) ⟨dX3_countNothings_31, _, rfl, rfl⟩ ?_
      exact ⟨rfl, rfl, rfl⟩
    · exact absurd (Int32.le_refl (nI 11)) c7
  | succ m ih =>
    intro j v hm
    have hj : j < 11 := by omega
    rw [ctN]
    refine sw_iload_n (pc' := 5) rfl dX3_countNothings_4 rfl ?_
    refine sw_bipush (pc' := 7) (v := 11) rfl dX3_countNothings_5 (by decide +kernel) ?_
    refine sw_icmp_ge (pc' := 10) (tgt := 30) rfl dX3_countNothings_7 (by decide +kernel) (fun c7 => ?_) (fun c7 => ?_)
    · exact absurd c7 (nI_ge (b := 11) (by omega) (by decide +kernel))
    · refine sw_iload_n (pc' := 11) rfl dX3_countNothings_10 rfl ?_
      refine sw_aload_n (pc' := 12) rfl dX3_countNothings_11 rfl ?_
      refine sw_getf (ci := 4) (k := 0) (pc' := 15) rfl dX3_countNothings_12 (by decide +kernel) w_150 hR.1 rfl ?_
      refine sw_iload_n (pc' := 16) rfl dX3_countNothings_15 rfl ?_
      refine sw_aald (pc' := 17) rfl dX3_countNothings_16 ga (by decide +kernel) (by decide +kernel) rfl hj (by decide +kernel) (gb j hj) ?_
      refine sw_bipush (pc' := 19) (v := 100) rfl dX3_countNothings_17 (by decide +kernel) ?_
      refine sw_V (M' := MX1_countOf) (d' := d - 1) (bc' := 0) (bs' := 0) (ci := 2) (as := [_]) dX3_countNothings_19 w_269 ok_X1_countOf (m_countOf (hR.sh hj)) (hR.sh hj).1 rfl (by omega) (Nat.le_of_ble_eq_true rfl) (Nat.zero_le _) (Nat.zero_le _) (fun E h' n' _ z => det_x z) (det_k ?_)
      refine sw_iadd (pc' := 23) rfl dX3_countNothings_22 ?_
      refine sw_istore_n (pc' := 24) (lv' := [(1, _), (2, _), (0, _)]) rfl dX3_countNothings_23 (by decide +kernel) rfl ?_
      refine sw_iinc (pc' := 27) (lv' := [(2, _), (1, _), (0, _)]) (v := nI (j + 1)) rfl dX3_countNothings_24 rfl (nI_succ j).symm (by decide +kernel) rfl ?_
      refine sw_goto (tgt := 4) dX3_countNothings_27 (by decide +kernel) ?_
      exact ih (j + 1) _ (by omega)
theorem m_countNothings {h : AH} {σ : CS} {d bc bs n : Nat} (hR : RC h σ) (hd : 1 ≤ d) : SM SR0 MX3_countNothings d bc bs [.ref 100] h n (Det (rI (cnN σ)) h n) := by
  refine sm_of pn_Overwalks rfl (Nat.le_of_ble_eq_true rfl) ?_
  refine sw_iconst (pc' := 1) (v := 0) rfl dX3_countNothings_0 (by decide +kernel) ?_
  refine sw_istore_n (pc' := 2) (lv' := [(1, _), (0, _)]) rfl dX3_countNothings_1 (by decide +kernel) rfl ?_
  refine sw_iconst (pc' := 3) (v := 0) rfl dX3_countNothings_2 (by decide +kernel) ?_
  refine sw_istore_n (pc' := 4) (lv' := [(2, _), (1, _), (0, _)]) rfl dX3_countNothings_3 (by decide +kernel) rfl ?_
  exact l_countNothings hR hd 11 0 0 rfl
theorem l_countWalks {h : AH} {σ : CS} {d bc bs n : Nat} (hR : RC h σ) (hd : 1 ≤ d) (m : Nat) : ∀ (j : Nat) (v : Int32), j + m = 6 → SW SR0 MX3_countWalks d bc bs 4 [(2, .int (nI j)), (1, .int v), (0, .ref 100)] [] h n (Det (rI (ctN (fun j => bI (σ.2.2.2.2.1 j).1) j m v)) h n) := by
  obtain ⟨g, ga, gb⟩ := hR.2.2.1
  induction m with
  | zero =>
    intro j v hj
    have hjc : j = 6 := by omega
    subst hjc
    refine sw_iload_n (pc' := 5) rfl dX3_countWalks_4 rfl ?_
    refine sw_bipush (pc' := 7) (v := 6) rfl dX3_countWalks_5 (by decide +kernel) ?_
    refine sw_icmp_ge (pc' := 10) (tgt := 31) rfl dX3_countWalks_7 (by decide +kernel) (fun c7 => ?_) (fun c7 => ?_)
    · refine sw_iload_n (pc' := 32) rfl dX3_countWalks_31 rfl ?_
      refine sw_ret (v := some _) ⟨dX3_countWalks_32, _, rfl, rfl⟩ ?_
      exact ⟨rfl, rfl, rfl⟩
    · exact absurd (Int32.le_refl (nI 6)) c7
  | succ m ih =>
    intro j v hm
    have hj : j < 6 := by omega
    rw [ctN]
    refine sw_iload_n (pc' := 5) rfl dX3_countWalks_4 rfl ?_
    refine sw_bipush (pc' := 7) (v := 6) rfl dX3_countWalks_5 (by decide +kernel) ?_
    refine sw_icmp_ge (pc' := 10) (tgt := 31) rfl dX3_countWalks_7 (by decide +kernel) (fun c7 => ?_) (fun c7 => ?_)
    · exact absurd c7 (nI_ge (b := 6) (by omega) (by decide +kernel))
    · refine sw_iload_n (pc' := 11) rfl dX3_countWalks_10 rfl ?_
      refine sw_aload_n (pc' := 12) rfl dX3_countWalks_11 rfl ?_
      refine sw_getf (ci := 4) (k := 1) (pc' := 15) rfl dX3_countWalks_12 (by decide +kernel) w_151 hR.1 rfl ?_
      refine sw_iload_n (pc' := 16) rfl dX3_countWalks_15 rfl ?_
      refine sw_aald (pc' := 17) rfl dX3_countWalks_16 ga (by decide +kernel) (by decide +kernel) rfl hj (by decide +kernel) (gb j hj) ?_
      refine sw_getf (ci := 3) (k := 0) (pc' := 20) rfl dX3_countWalks_17 (by decide +kernel) w_118 (hR.wk hj).2.1 rfl ?_
      refine sw_S (M' := MX3_oneIf) (d' := d - 1) (bc' := 0) (bs' := 0) (as := [_]) dX3_countWalks_20 w_277 ok_X3_oneIf (m_oneIf) (by omega) (Nat.le_of_ble_eq_true rfl) (Nat.zero_le _) (Nat.zero_le _) (fun E h' n' _ z => det_x z) (det_k ?_)
      refine sw_iadd (pc' := 24) rfl dX3_countWalks_23 ?_
      refine sw_istore_n (pc' := 25) (lv' := [(1, _), (2, _), (0, _)]) rfl dX3_countWalks_24 (by decide +kernel) rfl ?_
      refine sw_iinc (pc' := 28) (lv' := [(2, _), (1, _), (0, _)]) (v := nI (j + 1)) rfl dX3_countWalks_25 rfl (nI_succ j).symm (by decide +kernel) rfl ?_
      refine sw_goto (tgt := 4) dX3_countWalks_28 (by decide +kernel) ?_
      exact ih (j + 1) _ (by omega)
theorem m_countWalks {h : AH} {σ : CS} {d bc bs n : Nat} (hR : RC h σ) (hd : 1 ≤ d) : SM SR0 MX3_countWalks d bc bs [.ref 100] h n (Det (rI (cnW σ)) h n) := by
  refine sm_of pn_Overwalks rfl (Nat.le_of_ble_eq_true rfl) ?_
  refine sw_iconst (pc' := 1) (v := 0) rfl dX3_countWalks_0 (by decide +kernel) ?_
  refine sw_istore_n (pc' := 2) (lv' := [(1, _), (0, _)]) rfl dX3_countWalks_1 (by decide +kernel) rfl ?_
  refine sw_iconst (pc' := 3) (v := 0) rfl dX3_countWalks_2 (by decide +kernel) ?_
  refine sw_istore_n (pc' := 4) (lv' := [(2, _), (1, _), (0, _)]) rfl dX3_countWalks_3 (by decide +kernel) rfl ?_
  exact l_countWalks hR hd 6 0 0 rfl
theorem l_countStaleWalks {h : AH} {σ : CS} {d bc bs n : Nat} (hR : RC h σ) (hd : 1 ≤ d) (m : Nat) : ∀ (j : Nat) (v : Int32), j + m = 6 → SW SR0 MX3_countStaleWalks d bc bs 4 [(2, .int (nI j)), (1, .int v), (0, .ref 100)] [] h n (Det (rI (ctN (fun j => bI ((σ.2.2.2.2.1 j).1 && wSt σ j)) j m v)) h n) := by
  obtain ⟨g, ga, gb⟩ := hR.2.2.1
  induction m with
  | zero =>
    intro j v hj
    have hjc : j = 6 := by omega
    subst hjc
    refine sw_iload_n (pc' := 5) rfl dX3_countStaleWalks_4 rfl ?_
    refine sw_bipush (pc' := 7) (v := 6) rfl dX3_countStaleWalks_5 (by decide +kernel) ?_
    refine sw_icmp_ge (pc' := 10) (tgt := 51) rfl dX3_countStaleWalks_7 (by decide +kernel) (fun c7 => ?_) (fun c7 => ?_)
    · refine sw_iload_n (pc' := 52) rfl dX3_countStaleWalks_51 rfl ?_
      refine sw_ret (v := some _) ⟨dX3_countStaleWalks_52, _, rfl, rfl⟩ ?_
      exact ⟨rfl, rfl, rfl⟩
    · exact absurd (Int32.le_refl (nI 6)) c7
  | succ m ih =>
    intro j v hm
    have hj : j < 6 := by omega
    rw [ctN]
    refine sw_iload_n (pc' := 5) rfl dX3_countStaleWalks_4 rfl ?_
    refine sw_bipush (pc' := 7) (v := 6) rfl dX3_countStaleWalks_5 (by decide +kernel) ?_
    refine sw_icmp_ge (pc' := 10) (tgt := 51) rfl dX3_countStaleWalks_7 (by decide +kernel) (fun c7 => ?_) (fun c7 => ?_)
    · exact absurd c7 (nI_ge (b := 6) (by omega) (by decide +kernel))
    · refine sw_iload_n (pc' := 11) rfl dX3_countStaleWalks_10 rfl ?_
      refine sw_aload_n (pc' := 12) rfl dX3_countStaleWalks_11 rfl ?_
      refine sw_getf (ci := 4) (k := 1) (pc' := 15) rfl dX3_countStaleWalks_12 (by decide +kernel) w_151 hR.1 rfl ?_
      refine sw_iload_n (pc' := 16) rfl dX3_countStaleWalks_15 rfl ?_
      refine sw_aald (pc' := 17) rfl dX3_countStaleWalks_16 ga (by decide +kernel) (by decide +kernel) rfl hj (by decide +kernel) (gb j hj) ?_
      refine sw_getf (ci := 3) (k := 0) (pc' := 20) rfl dX3_countStaleWalks_17 (by decide +kernel) w_118 (hR.wk hj).2.1 rfl ?_
      refine sw_if_eq (pc' := 23) (tgt := 39) rfl dX3_countStaleWalks_20 (by decide +kernel) (fun c20 => ?_) (fun c20 => ?_)
      · refine sw_iconst (pc' := 40) (v := 0) rfl dX3_countStaleWalks_39 (by decide +kernel) ?_
        refine sw_S (M' := MX3_oneIf) (d' := d - 1) (bc' := 0) (bs' := 0) (as := [_]) dX3_countStaleWalks_40 w_277 ok_X3_oneIf (m_oneIf (q := false)) (by omega) (Nat.le_of_ble_eq_true rfl) (Nat.zero_le _) (Nat.zero_le _) (fun E h' n' _ z => det_x z) (det_k ?_)
        refine sw_iadd (pc' := 44) rfl dX3_countStaleWalks_43 ?_
        refine sw_istore_n (pc' := 45) (lv' := [(1, _), (2, _), (0, _)]) rfl dX3_countStaleWalks_44 (by decide +kernel) rfl ?_
        refine sw_iinc (pc' := 48) (lv' := [(2, _), (1, _), (0, _)]) (v := nI (j + 1)) rfl dX3_countStaleWalks_45 rfl (nI_succ j).symm (by decide +kernel) rfl ?_
        refine sw_goto (tgt := 4) dX3_countStaleWalks_48 (by decide +kernel) ?_
        have e0 : bI ((σ.2.2.2.2.1 j).1 && wSt σ j) = 0 := by rw [bI_0 c20]; rfl
        have g9 := ih (j + 1) (v + bI ((σ.2.2.2.2.1 j).1 && wSt σ j)) (by omega)
        rw [e0] at g9 ⊢
        exact g9
      · refine sw_aload_n (pc' := 24) rfl dX3_countStaleWalks_23 rfl ?_
        refine sw_getf (ci := 4) (k := 1) (pc' := 27) rfl dX3_countStaleWalks_24 (by decide +kernel) w_151 hR.1 rfl ?_
        refine sw_iload_n (pc' := 28) rfl dX3_countStaleWalks_27 rfl ?_
        refine sw_aald (pc' := 29) rfl dX3_countStaleWalks_28 ga (by decide +kernel) (by decide +kernel) rfl hj (by decide +kernel) (gb j hj) ?_
        refine sw_V (M' := MX2_isStale) (d' := d - 1) (bc' := 0) (bs' := 0) (ci := 3) (as := []) dX3_countStaleWalks_29 w_284 ok_X2_isStale (m_isStale (hR.wk hj).2 (hR.sh (hR.wk hj).1)) (hR.wk hj).2.1 rfl (by omega) (Nat.le_of_ble_eq_true rfl) (Nat.zero_le _) (Nat.zero_le _) (fun E h' n' _ z => det_x z) (det_k ?_)
        refine sw_if_eq (pc' := 35) (tgt := 39) rfl dX3_countStaleWalks_32 (by decide +kernel) (fun c32 => ?_) (fun c32 => ?_)
        · refine sw_iconst (pc' := 40) (v := 0) rfl dX3_countStaleWalks_39 (by decide +kernel) ?_
          refine sw_S (M' := MX3_oneIf) (d' := d - 1) (bc' := 0) (bs' := 0) (as := [_]) dX3_countStaleWalks_40 w_277 ok_X3_oneIf (m_oneIf (q := false)) (by omega) (Nat.le_of_ble_eq_true rfl) (Nat.zero_le _) (Nat.zero_le _) (fun E h' n' _ z => det_x z) (det_k ?_)
          refine sw_iadd (pc' := 44) rfl dX3_countStaleWalks_43 ?_
          refine sw_istore_n (pc' := 45) (lv' := [(1, _), (2, _), (0, _)]) rfl dX3_countStaleWalks_44 (by decide +kernel) rfl ?_
          refine sw_iinc (pc' := 48) (lv' := [(2, _), (1, _), (0, _)]) (v := nI (j + 1)) rfl dX3_countStaleWalks_45 rfl (nI_succ j).symm (by decide +kernel) rfl ?_
          refine sw_goto (tgt := 4) dX3_countStaleWalks_48 (by decide +kernel) ?_
          have e0 : bI ((σ.2.2.2.2.1 j).1 && wSt σ j) = 0 := by rw [bI_1 c20, show wSt σ j = false from bI_0 c32]; rfl
          have g9 := ih (j + 1) (v + bI ((σ.2.2.2.2.1 j).1 && wSt σ j)) (by omega)
          rw [e0] at g9 ⊢
          exact g9
        · refine sw_iconst (pc' := 36) (v := 1) rfl dX3_countStaleWalks_35 (by decide +kernel) ?_
          refine sw_goto (tgt := 40) dX3_countStaleWalks_36 (by decide +kernel) ?_
          refine sw_S (M' := MX3_oneIf) (d' := d - 1) (bc' := 0) (bs' := 0) (as := [_]) dX3_countStaleWalks_40 w_277 ok_X3_oneIf (m_oneIf (q := true)) (by omega) (Nat.le_of_ble_eq_true rfl) (Nat.zero_le _) (Nat.zero_le _) (fun E h' n' _ z => det_x z) (det_k ?_)
          refine sw_iadd (pc' := 44) rfl dX3_countStaleWalks_43 ?_
          refine sw_istore_n (pc' := 45) (lv' := [(1, _), (2, _), (0, _)]) rfl dX3_countStaleWalks_44 (by decide +kernel) rfl ?_
          refine sw_iinc (pc' := 48) (lv' := [(2, _), (1, _), (0, _)]) (v := nI (j + 1)) rfl dX3_countStaleWalks_45 rfl (nI_succ j).symm (by decide +kernel) rfl ?_
          refine sw_goto (tgt := 4) dX3_countStaleWalks_48 (by decide +kernel) ?_
          have e0 : bI ((σ.2.2.2.2.1 j).1 && wSt σ j) = 1 := by rw [bI_1 c20, show wSt σ j = true from bI_1 c32]; rfl
          have g9 := ih (j + 1) (v + bI ((σ.2.2.2.2.1 j).1 && wSt σ j)) (by omega)
          rw [e0] at g9 ⊢
          exact g9
theorem m_countStaleWalks {h : AH} {σ : CS} {d bc bs n : Nat} (hR : RC h σ) (hd : 1 ≤ d) : SM SR0 MX3_countStaleWalks d bc bs [.ref 100] h n (Det (rI (cnS σ)) h n) := by
  refine sm_of pn_Overwalks rfl (Nat.le_of_ble_eq_true rfl) ?_
  refine sw_iconst (pc' := 1) (v := 0) rfl dX3_countStaleWalks_0 (by decide +kernel) ?_
  refine sw_istore_n (pc' := 2) (lv' := [(1, _), (0, _)]) rfl dX3_countStaleWalks_1 (by decide +kernel) rfl ?_
  refine sw_iconst (pc' := 3) (v := 0) rfl dX3_countStaleWalks_2 (by decide +kernel) ?_
  refine sw_istore_n (pc' := 4) (lv' := [(2, _), (1, _), (0, _)]) rfl dX3_countStaleWalks_3 (by decide +kernel) rfl ?_
  exact l_countStaleWalks hR hd 6 0 0 rfl
theorem m_house {h : AH} {σ : CS} {d bc bs n : Nat} {x : Int32} (hR : RC h σ) (hd : 6 ≤ d) (hb1 : 20 ≤ bc) (hb2 : 200 ≤ bs) : SM SR0 MX3_house d bc bs [.ref 100, .int x] h n (CP h n (opHouse σ x)) := by
  refine sm_of pn_Overwalks rfl (Nat.le_of_ble_eq_true rfl) ?_
  refine sw_iload_n (pc' := 1) rfl dX3_house_0 rfl ?_
  rcases Classical.em (x = 0) with t1_0 | t1_0
  · refine sw_tableIn (tgt := 40) dX3_house_1 (by rw [t1_0]; decide) (by rw [t1_0]; decide) (by rw [t1_0]; rfl) (by decide +kernel) ?_
    refine sw_aload_n (pc' := 41) rfl dX3_house_40 rfl ?_
    refine sw_V (M' := MX3_countThings) (d' := d - 1) (bc' := 0) (bs' := 0) (ci := 4) (as := []) dX3_house_41 w_261 ok_X3_countThings (m_countThings hR (by omega)) hR.1 rfl (by omega) (Nat.le_of_ble_eq_true rfl) (Nat.zero_le _) (Nat.zero_le _) (fun E h' n' _ z => det_x z) (det_k ?_)
    refine sw_ret (v := some _) ⟨dX3_house_44, _, rfl, rfl⟩ ?_
    rw [opHouse, if_pos t1_0]
    exact ⟨rfl, rfl, hR, FrC.rf⟩
  rcases Classical.em (x = 1) with t1_1 | t1_1
  · refine sw_tableIn (tgt := 45) dX3_house_1 (by rw [t1_1]; decide) (by rw [t1_1]; decide) (by rw [t1_1]; rfl) (by decide +kernel) ?_
    refine sw_aload_n (pc' := 46) rfl dX3_house_45 rfl ?_
    refine sw_V (M' := MX3_countNothings) (d' := d - 1) (bc' := 0) (bs' := 0) (ci := 4) (as := []) dX3_house_46 w_265 ok_X3_countNothings (m_countNothings hR (by omega)) hR.1 rfl (by omega) (Nat.le_of_ble_eq_true rfl) (Nat.zero_le _) (Nat.zero_le _) (fun E h' n' _ z => det_x z) (det_k ?_)
    refine sw_ret (v := some _) ⟨dX3_house_49, _, rfl, rfl⟩ ?_
    rw [opHouse, if_neg t1_0, if_pos t1_1]
    exact ⟨rfl, rfl, hR, FrC.rf⟩
  rcases Classical.em (x = 2) with t1_2 | t1_2
  · refine sw_tableIn (tgt := 50) dX3_house_1 (by rw [t1_2]; decide) (by rw [t1_2]; decide) (by rw [t1_2]; rfl) (by decide +kernel) ?_
    refine sw_aload_n (pc' := 51) rfl dX3_house_50 rfl ?_
    refine sw_V (M' := MX3_countWalks) (d' := d - 1) (bc' := 0) (bs' := 0) (ci := 4) (as := []) dX3_house_51 w_273 ok_X3_countWalks (m_countWalks hR (by omega)) hR.1 rfl (by omega) (Nat.le_of_ble_eq_true rfl) (Nat.zero_le _) (Nat.zero_le _) (fun E h' n' _ z => det_x z) (det_k ?_)
    refine sw_ret (v := some _) ⟨dX3_house_54, _, rfl, rfl⟩ ?_
    rw [opHouse, if_neg t1_0, if_neg t1_1, if_pos t1_2]
    exact ⟨rfl, rfl, hR, FrC.rf⟩
  rcases Classical.em (x = 3) with t1_3 | t1_3
  · refine sw_tableIn (tgt := 55) dX3_house_1 (by rw [t1_3]; decide) (by rw [t1_3]; decide) (by rw [t1_3]; rfl) (by decide +kernel) ?_
    refine sw_aload_n (pc' := 56) rfl dX3_house_55 rfl ?_
    refine sw_V (M' := MX3_countStaleWalks) (d' := d - 1) (bc' := 0) (bs' := 0) (ci := 4) (as := []) dX3_house_56 w_280 ok_X3_countStaleWalks (m_countStaleWalks hR (by omega)) hR.1 rfl (by omega) (Nat.le_of_ble_eq_true rfl) (Nat.zero_le _) (Nat.zero_le _) (fun E h' n' _ z => det_x z) (det_k ?_)
    refine sw_ret (v := some _) ⟨dX3_house_59, _, rfl, rfl⟩ ?_
    rw [opHouse, if_neg t1_0, if_neg t1_1, if_neg t1_2, if_pos t1_3]
    exact ⟨rfl, rfl, hR, FrC.rf⟩
  rcases Classical.em (x = 4) with t1_4 | t1_4
  · refine sw_tableIn (tgt := 60) dX3_house_1 (by rw [t1_4]; decide) (by rw [t1_4]; decide) (by rw [t1_4]; rfl) (by decide +kernel) ?_
    refine sw_aload_n (pc' := 61) rfl dX3_house_60 rfl ?_
    refine sw_getf (ci := 4) (k := 5) (pc' := 64) rfl dX3_house_61 (by decide +kernel) w_155 hR.1 rfl ?_
    refine sw_ret (v := some _) ⟨dX3_house_64, _, rfl, rfl⟩ ?_
    rw [opHouse, if_neg t1_0, if_neg t1_1, if_neg t1_2, if_neg t1_3, if_pos t1_4]
    exact ⟨rfl, rfl, hR, FrC.rf⟩
  rcases Classical.em (x = 5) with t1_5 | t1_5
  · refine sw_tableIn (tgt := 65) dX3_house_1 (by rw [t1_5]; decide) (by rw [t1_5]; decide) (by rw [t1_5]; rfl) (by decide +kernel) ?_
    refine sw_aload_n (pc' := 66) rfl dX3_house_65 rfl ?_
    refine sw_getf (ci := 4) (k := 6) (pc' := 69) rfl dX3_house_66 (by decide +kernel) w_156 hR.1 rfl ?_
    refine sw_ret (v := some _) ⟨dX3_house_69, _, rfl, rfl⟩ ?_
    rw [opHouse, if_neg t1_0, if_neg t1_1, if_neg t1_2, if_neg t1_3, if_neg t1_4, if_pos t1_5]
    exact ⟨rfl, rfl, hR, FrC.rf⟩
  refine sw_tableOut (tgt := 70) dX3_house_1 (ts6 t1_0 t1_1 t1_2 t1_3 t1_4 t1_5) (by decide +kernel) ?_
  refine sw_throwW (names := ["java/lang/RuntimeException", "java/lang/Exception"]) rfl dX3_house_70 dX3_house_73 dX3_house_74 dX3_house_77 dX3_house_80 (by decide +kernel) (by decide +kernel) (by decide +kernel) w_285 w_50 (SRm 0 rfl) th_Overwalks_154 (by omega) (by omega) ?_
  rw [opHouse, if_neg t1_0, if_neg t1_1, if_neg t1_2, if_neg t1_3, if_neg t1_4, if_neg t1_5]
  exact ⟨rfl, rfl, hR, FrC.rf⟩
theorem m_ofWalk {h : AH} {σ : CS} {d bc bs n : Nat} {a x : Int32} (hR : RC h σ) (hd : 6 ≤ d) (hb1 : 20 ≤ bc) (hb2 : 200 ≤ bs) : SM SR0 MX3_ofWalk d bc bs [.ref 100, .int a, .int x] h n (CP h n (opOfWalk σ a x)) := by
  refine sm_of pn_Overwalks rfl (Nat.le_of_ble_eq_true rfl) ?_
  refine sw_aload_n (pc' := 1) rfl dX3_ofWalk_0 rfl ?_
  refine sw_iload_n (pc' := 2) rfl dX3_ofWalk_1 rfl ?_
  rcases idxN 6 (by decide +kernel) a with q2 | ⟨k2, hk2, q2⟩
  · refine sw_V (M' := MX3_walkAt) (d' := d - 1) (bc' := 1) (bs' := 6) (ci := 4) (as := [_]) dX3_ofWalk_2 w_357 ok_X3_walkAt (m_walkAt_x hR (Nat.le_refl _) (Nat.le_refl _) q2) hR.1 rfl (by omega) (Nat.le_of_ble_eq_true rfl) (by omega) (by omega) (dx_x (swx_out rfl ?_)) (fun v h' n' _ z => dx_k z)
    rw [opOfWalk, onWk_x q2]
    exact ⟨rfl, rfl, hR, FrC.rf⟩
  subst q2
  refine sw_V (M' := MX3_walkAt) (d' := d - 1) (bc' := 1) (bs' := 6) (ci := 4) (as := [_]) dX3_ofWalk_2 w_357 ok_X3_walkAt (m_walkAt_k hR (Nat.le_refl _) (Nat.le_refl _) hk2) hR.1 rfl (by omega) (Nat.le_of_ble_eq_true rfl) (by omega) (by omega) (fun E h' n' _ z => det_x z) (det_k ?_)
  refine sw_astore_n (pc' := 6) (lv' := [(3, _), (0, _), (1, _), (2, _)]) rfl dX3_ofWalk_5 (by decide +kernel) rfl ?_
  refine sw_iload_n (pc' := 7) rfl dX3_ofWalk_6 rfl ?_
  refine sw_if_lt (pc' := 10) (tgt := 15) rfl dX3_ofWalk_7 (by decide +kernel) (fun c7 => ?_) (fun c7 => ?_)
  · refine sw_throwW (names := ["java/lang/RuntimeException", "java/lang/Exception"]) rfl dX3_ofWalk_15 dX3_ofWalk_18 dX3_ofWalk_19 dX3_ofWalk_22 dX3_ofWalk_25 (by decide +kernel) (by decide +kernel) (by decide +kernel) w_285 w_50 (SRm 2 rfl) th_Overwalks_154 (by omega) (by omega) ?_
    rw [opOfWalk, onWk_k hk2, if_pos (Or.inl c7)]
    exact ⟨rfl, rfl, hR, FrC.rf⟩
  · refine sw_iload_n (pc' := 11) rfl dX3_ofWalk_10 rfl ?_
    refine sw_iconst (pc' := 12) (v := 3) rfl dX3_ofWalk_11 (by decide +kernel) ?_
    refine sw_icmp_le (pc' := 15) (tgt := 26) rfl dX3_ofWalk_12 (by decide +kernel) (fun c12 => ?_) (fun c12 => ?_)
    · refine sw_aload_n (pc' := 27) rfl dX3_ofWalk_26 rfl ?_
      refine sw_getf (ci := 3) (k := 0) (pc' := 30) rfl dX3_ofWalk_27 (by decide +kernel) w_118 (hR.wk hk2).2.1 rfl ?_
      refine sw_if_ne (pc' := 33) (tgt := 35) rfl dX3_ofWalk_30 (by decide +kernel) (fun c30 => ?_) (fun c30 => ?_)
      · refine sw_iload_n (pc' := 36) rfl dX3_ofWalk_35 rfl ?_
        rcases Classical.em (x = 0) with t36_0 | t36_0
        · refine sw_tableIn (tgt := 64) dX3_ofWalk_36 (by rw [t36_0]; decide) (by rw [t36_0]; decide) (by rw [t36_0]; rfl) (by decide +kernel) ?_
          refine sw_aload_n (pc' := 65) rfl dX3_ofWalk_64 rfl ?_
          refine sw_getf (ci := 3) (k := 2) (pc' := 68) rfl dX3_ofWalk_65 (by decide +kernel) w_122 (hR.wk hk2).2.1 rfl ?_
          refine sw_ret (v := some _) ⟨dX3_ofWalk_68, _, rfl, rfl⟩ ?_
          rw [opOfWalk, onWk_k hk2, if_neg (fun q => q.elim c7 (Int32.not_lt.mpr c12)), if_neg (fun e : (σ.2.2.2.2.1 k2).1 = false => by rw [e] at c30; exact c30 rfl), if_pos t36_0]
          exact ⟨rfl, rfl, hR, FrC.rf⟩
        rcases Classical.em (x = 1) with t36_1 | t36_1
        · refine sw_tableIn (tgt := 69) dX3_ofWalk_36 (by rw [t36_1]; decide) (by rw [t36_1]; decide) (by rw [t36_1]; rfl) (by decide +kernel) ?_
          refine sw_aload_n (pc' := 70) rfl dX3_ofWalk_69 rfl ?_
          refine sw_getf (ci := 3) (k := 3) (pc' := 73) rfl dX3_ofWalk_70 (by decide +kernel) w_124 (hR.wk hk2).2.1 rfl ?_
          refine sw_ret (v := some _) ⟨dX3_ofWalk_73, _, rfl, rfl⟩ ?_
          rw [opOfWalk, onWk_k hk2, if_neg (fun q => q.elim c7 (Int32.not_lt.mpr c12)), if_neg (fun e : (σ.2.2.2.2.1 k2).1 = false => by rw [e] at c30; exact c30 rfl), if_neg t36_0, if_pos t36_1]
          exact ⟨rfl, rfl, hR, FrC.rf⟩
        rcases Classical.em (x = 2) with t36_2 | t36_2
        · refine sw_tableIn (tgt := 74) dX3_ofWalk_36 (by rw [t36_2]; decide) (by rw [t36_2]; decide) (by rw [t36_2]; rfl) (by decide +kernel) ?_
          refine sw_aload_n (pc' := 75) rfl dX3_ofWalk_74 rfl ?_
          refine sw_getf (ci := 3) (k := 4) (pc' := 78) rfl dX3_ofWalk_75 (by decide +kernel) w_126 (hR.wk hk2).2.1 rfl ?_
          refine sw_ret (v := some _) ⟨dX3_ofWalk_78, _, rfl, rfl⟩ ?_
          rw [opOfWalk, onWk_k hk2, if_neg (fun q => q.elim c7 (Int32.not_lt.mpr c12)), if_neg (fun e : (σ.2.2.2.2.1 k2).1 = false => by rw [e] at c30; exact c30 rfl), if_neg t36_0, if_neg t36_1, if_pos t36_2]
          exact ⟨rfl, rfl, hR, FrC.rf⟩
        refine sw_tableOut (tgt := 79) dX3_ofWalk_36 (ts3 t36_0 t36_1 t36_2) (by decide +kernel) ?_
        refine sw_aload_n (pc' := 80) rfl dX3_ofWalk_79 rfl ?_
        refine sw_V (M' := MX2_isStale) (d' := d - 1) (bc' := 0) (bs' := 0) (ci := 3) (as := []) dX3_ofWalk_80 w_284 ok_X2_isStale (m_isStale (hR.wk hk2).2 (hR.sh (hR.wk hk2).1)) (hR.wk hk2).2.1 rfl (by omega) (Nat.le_of_ble_eq_true rfl) (by omega) (by omega) (fun E h' n' _ z => det_x z) (det_k ?_)
        refine sw_S (M' := MX3_oneIf) (d' := d - 1) (bc' := 0) (bs' := 0) (as := [_]) dX3_ofWalk_83 w_277 ok_X3_oneIf (m_oneIf) (by omega) (Nat.le_of_ble_eq_true rfl) (by omega) (by omega) (fun E h' n' _ z => det_x z) (det_k ?_)
        refine sw_ret (v := some _) ⟨dX3_ofWalk_86, _, rfl, rfl⟩ ?_
        rw [opOfWalk, onWk_k hk2, if_neg (fun q => q.elim c7 (Int32.not_lt.mpr c12)), if_neg (fun e : (σ.2.2.2.2.1 k2).1 = false => by rw [e] at c30; exact c30 rfl), if_neg t36_0, if_neg t36_1, if_neg t36_2]
        exact ⟨rfl, rfl, hR, FrC.rf⟩
      · refine sw_iconst (pc' := 34) (v := (-1)) rfl dX3_ofWalk_33 (by decide +kernel) ?_
        refine sw_ret (v := some _) ⟨dX3_ofWalk_34, _, rfl, rfl⟩ ?_
        rw [opOfWalk, onWk_k hk2, if_neg (fun q => q.elim c7 (Int32.not_lt.mpr c12)), if_pos (bI_0 c30)]
        exact ⟨rfl, rfl, hR, FrC.rf⟩
    · refine sw_throwW (names := ["java/lang/RuntimeException", "java/lang/Exception"]) rfl dX3_ofWalk_15 dX3_ofWalk_18 dX3_ofWalk_19 dX3_ofWalk_22 dX3_ofWalk_25 (by decide +kernel) (by decide +kernel) (by decide +kernel) w_285 w_50 (SRm 2 rfl) th_Overwalks_154 (by omega) (by omega) ?_
      rw [opOfWalk, onWk_k hk2, if_pos (Or.inr (Int32.not_le.mp c12))]
      exact ⟨rfl, rfl, hR, FrC.rf⟩
end
section
/-! 24.math -/
/-! methods of a class of which natives stand for some: none stands for these -/
section
variable {l : Launch}
theorem vf_ofW {y : MethodName} {ws ws' : List Cond} {rm : Room} {Pc : Array Value → State → Prop} {Qc : Array Value → State → Outcome → State → Prop} {XC : String → State → State → Prop} {mc ms : Nat} {free : Addr → Prop} {cc : ByteArray} {maxL : Nat} {ret : Option FieldType}
    (hy : plainFor y = true) (hw : ws = Cond.code y cc maxL ret :: ws')
    (body : ∀ p e s m args below meth c s₁, BodyLoose p l y (headSpec ws rm) cc maxL ret e s m args below meth c s₁ → c.maxLocals = maxL → (∀ x ∈ c.exceptionTable.toList, False) → Pc args s →
      W p l e (headSpec ws rm).room s m args below meth c s.heap [] 0 0 (vx_MQ below Qc XC args s mc ms free) (entryFrame m args maxL)) : vx_Met l y ws rm Pc Qc XC mc ms free := by
  refine MetFree.of_bodySF (code := cc) (maxLocals := maxL) (ret := ret) hy ?_ ?_
  · intro args s m h hn
    obtain ⟨meth, c, h1, h2, h3, h4, h5, h6, -, -⟩ := Cond.code_spec hn (atoms_spec (ws := ws) h _ (by rw [hw]; exact List.mem_cons_self))
    exact ⟨meth, c, h1, h2, h3, h4, h5, h6⟩
  · intro p e s m args below meth c s₁ B hml hP _
    have hh0 : s₁.heap = s.heap := by rw [B.state]; rfl
    have ht : ∀ x ∈ c.exceptionTable.toList, False := by
      obtain ⟨meth9, c9, h1, h2, -, -, -, -, h7, -⟩ := Cond.code_spec B.named (atoms_spec (ws := ws) B.pre _ (by rw [hw]; exact List.mem_cons_self))
      cases Option.some.inj (h1.symm.trans B.method)
      cases Option.some.inj (h2.symm.trans (Stand.of_body B).code)
      intro x hx
      rw [Array.isEmpty_iff.mp h7] at hx
      cases hx
    obtain ⟨t, a1, o, b1, b2, b3⟩ := body p e s m args below meth c s₁ B hml ht hP s₁ hh0 (Stand.of_body B)
    exact ⟨t, o, a1, b1, b2, b3⟩
end
section
variable {SR : SRT} {M : MI}
theorem sm_ofF {d bc bs : Nat} {as : List Value} {h : AH} {n : Nat} {Post : ARes → AH → Nat → Prop} (hy : plainFor M.1 = true) (hM : M.2.2.2.2 = []) (hlen : (lg_sl as).length ≤ M.2.2.1)
    (k : SW SR M d bc bs 0 (lv_args 0 as) [] h n Post) : SM SR M d bc bs as h n Post := by
  intro l hl G ad sz has
  have hcw : cwM M = Cond.code M.1 M.2.1 M.2.2.1 M.2.2.2.1 := by unfold cwM; rw [if_pos hM]
  refine vf_ofW (cc := M.2.1) (maxL := M.2.2.1) (ret := M.2.2.2.1) (ws' := GT) hy (by rw [← hcw]; rfl) ?_
  intro p e s m args below meth c s₁ B hml ht hv
  obtain ⟨rfl, hv⟩ := hv
  have hts := atoms_spec (ws := wsM M) B.pre
  have hcx : CX SR G M p l s m ((as.map (em ad)).toArray) meth c (va_A (wsH G ad h n) sz) := by
    refine ⟨B.exec, B.bytes, B.returns, hml, findClass_of_methodNamed B.named, fun w hw => hts w (List.mem_cons_of_mem _ hw), B.notSynchronized, ?_, hl, fun q => (name_of_methodNamed B.named B.method).1.trans q, hv.2.2.2.2.2.2.1, hv.2.2.2.2.2.2.2.1, hv.2.2.2.2.2.2.2.2.1, hv.2.2.2.2.2.2.2.2.2.1, hv.2.2.2.2.2.2.2.2.2.2, fun q hq => Or.inr (by rw [← hv.1]; exact hq)⟩
    rw [hM]
    exact List.eq_nil_iff_forall_not_mem.mpr ht
  have hl9 := lv_entry (as.map (em ad)) (n := M.2.2.1) (by rw [lg_sl_len]; exact hlen)
  rw [lg_entry_eq]
  refine k G p l e (headSpec (wsM M) (rmOf d bc bs)).room s m _ below meth c _ ad n _ hcx ⟨Nat.le_refl _, Nat.le_refl _⟩ (en_of (d := d) (bc := bc) (bs := bs) (h0 := h) hcx) _ _ 0 0 _ ad (hm_entry hv) ⟨?_, lv_args_cl as 0 has, fun v hv => by cases hv⟩ Ext.rf (by show 0 + bc ≤ bc; omega) (by show 0 + bs ≤ bs; omega)
  rw [← lv_args_map]
  exact hl9
end
theorem mth_nat : ∀ r ∈ Jvm.natives, r.cls = "java/lang/Math" → r.desc ≠ "(II)I" := by decide +kernel
theorem pf_of {y : MethodName} (hc : y.cls = "java/lang/Math") (hd : y.desc = "(II)I") : plainFor y = true := by
  have e : NativeRow.find? Jvm.natives y.cls y.name y.desc = none := by
    unfold NativeRow.find?
    rw [List.find?_eq_none]
    intro r hr hp
    simp only [Bool.and_eq_true, beq_iff_eq] at hp
    exact mth_nat r hr (hp.1.2.trans hc) (hp.2.trans hd)
  unfold plainFor
  rw [e, Option.isNone_none, Bool.or_true]
def fmI (x y : Int32) : Int32 := if 0 ≤ x ^^^ y then x - x / y * y else if x - x / y * y = 0 then x - x / y * y else x - x / y * y + y
theorem m_min {h : AH} {d bc bs n : Nat} {x y : Int32} : SM SR0 MJ9_min_7cf53 d bc bs [.int x, .int y] h n (Det (rI (minI x y)) h n) := by
  refine sm_ofF (pf_of rfl rfl) rfl (Nat.le_of_ble_eq_true rfl) ?_
  refine sw_iload_n (pc' := 1) rfl dJ9_min_7cf53_0 rfl ?_
  refine sw_iload_n (pc' := 2) rfl dJ9_min_7cf53_1 rfl ?_
  refine sw_icmp_gt (pc' := 5) (tgt := 9) rfl dJ9_min_7cf53_2 (by decide +kernel) (fun c2 => ?_) (fun c2 => ?_)
  · refine sw_iload_n (pc' := 10) rfl dJ9_min_7cf53_9 rfl ?_
    refine sw_ret (v := some _) ⟨dJ9_min_7cf53_10, _, rfl, rfl⟩ ?_
    exact ⟨by rw [minI, if_pos c2]; rfl, rfl, rfl⟩
  · refine sw_iload_n (pc' := 6) rfl dJ9_min_7cf53_5 rfl ?_
    refine sw_goto (tgt := 10) dJ9_min_7cf53_6 (by decide +kernel) ?_
    refine sw_ret (v := some _) ⟨dJ9_min_7cf53_10, _, rfl, rfl⟩ ?_
    exact ⟨by rw [minI, if_neg c2]; rfl, rfl, rfl⟩
theorem m_max {h : AH} {d bc bs n : Nat} {x y : Int32} : SM SR0 MJ9_max_7cf53 d bc bs [.int x, .int y] h n (Det (rI (maxI x y)) h n) := by
  refine sm_ofF (pf_of rfl rfl) rfl (Nat.le_of_ble_eq_true rfl) ?_
  refine sw_iload_n (pc' := 1) rfl dJ9_max_7cf53_0 rfl ?_
  refine sw_iload_n (pc' := 2) rfl dJ9_max_7cf53_1 rfl ?_
  refine sw_icmp_lt (pc' := 5) (tgt := 9) rfl dJ9_max_7cf53_2 (by decide +kernel) (fun c2 => ?_) (fun c2 => ?_)
  · refine sw_iload_n (pc' := 10) rfl dJ9_max_7cf53_9 rfl ?_
    refine sw_ret (v := some _) ⟨dJ9_max_7cf53_10, _, rfl, rfl⟩ ?_
    exact ⟨by rw [maxI, if_pos c2]; rfl, rfl, rfl⟩
  · refine sw_iload_n (pc' := 6) rfl dJ9_max_7cf53_5 rfl ?_
    refine sw_goto (tgt := 10) dJ9_max_7cf53_6 (by decide +kernel) ?_
    refine sw_ret (v := some _) ⟨dJ9_max_7cf53_10, _, rfl, rfl⟩ ?_
    exact ⟨by rw [maxI, if_neg c2]; rfl, rfl, rfl⟩
theorem l_end {h : AH} {σ : CS} {d bc bs n k : Nat} {a y : Int32} (hR : RC h σ) (hk : k < 11) (hd : 1 ≤ d) (m : Nat) : ∀ (j : Nat) (v : Int32), j + m = σ.2.1 k → SW SR0 MX3_end d bc bs 37 [(5, .int (nI j)), (4, .int v), (3, .ref (102 + 2 * k)), (0, .ref 100), (1, .int a), (2, .int y)] [] h n (CP h n (rI (edN y (σ.1 k) j m v), σ)) := by
  have hc := (hR.sh hk).2.2.1
  induction m with
  | zero =>
    intro j v hj
    have hjc : σ.2.1 k = j := by omega
    refine sw_iload (pc' := 39) rfl dX3_end_37 rfl ?_
    refine sw_aload_n (pc' := 40) rfl dX3_end_39 rfl ?_
    refine sw_getf (ci := 2) (k := 2) (pc' := 43) rfl dX3_end_40 (by decide +kernel) w_84 (hR.sh hk).1 rfl ?_
    refine sw_icmp_ge (pc' := 46) (tgt := 83) rfl dX3_end_43 (by decide +kernel) (fun c43 => ?_) (fun c43 => ?_)
    · refine sw_iload (pc' := 85) rfl dX3_end_83 rfl ?_
      refine sw_ret (v := some _) ⟨dX3_end_85, _, rfl, rfl⟩ ?_
      exact ⟨rfl, rfl, hR, FrC.rf⟩
    · exact absurd (by rw [hjc]; exact Int32.le_refl _) c43
  | succ m ih =>
    intro j v hj
    have e1 := taI_in (f := σ.1 k) (c := σ.2.1 k) (j := j) (by omega) hc
    refine sw_iload (pc' := 39) rfl dX3_end_37 rfl ?_
    refine sw_aload_n (pc' := 40) rfl dX3_end_39 rfl ?_
    refine sw_getf (ci := 2) (k := 2) (pc' := 43) rfl dX3_end_40 (by decide +kernel) w_84 (hR.sh hk).1 rfl ?_
    refine sw_icmp_ge (pc' := 46) (tgt := 83) rfl dX3_end_43 (by decide +kernel) (fun c43 => ?_) (fun c43 => ?_)
    · exact absurd c43 (nI_ge (by omega) (by omega))
    · refine sw_aload_n (pc' := 47) rfl dX3_end_46 rfl ?_
      refine sw_iload (pc' := 49) rfl dX3_end_47 rfl ?_
      refine sw_V (M' := MX1_thingAt) (d' := d - 1) (bc' := 0) (bs' := 0) (ci := 2) (as := [_]) dX3_end_49 w_230 ok_X1_thingAt (m_thingAt (hR.sh hk)) (hR.sh hk).1 rfl (by omega) (Nat.le_of_ble_eq_true rfl) (Nat.zero_le _) (Nat.zero_le _) (fun E h' n' _ z => det_x z) (det_k ?_)
      refine sw_istore (pc' := 54) (lv' := [(6, _), (5, _), (4, _), (3, _), (0, _), (1, _), (2, _)]) rfl dX3_end_52 (by decide +kernel) rfl ?_
      refine sw_iload_n (pc' := 55) rfl dX3_end_54 rfl ?_
      refine sw_if_eq (pc' := 58) (tgt := 68) rfl dX3_end_55 (by decide +kernel) (fun c55 => ?_) (fun c55 => ?_)
      · refine sw_iload (pc' := 70) rfl dX3_end_68 rfl ?_
        refine sw_iload (pc' := 72) rfl dX3_end_70 rfl ?_
        refine sw_S (M' := MJ9_max_7cf53) (d' := d - 1) (bc' := 0) (bs' := 0) (as := [_, _]) dX3_end_72 w_1068 ok_J9_max_7cf53 (m_max) (by omega) (Nat.le_of_ble_eq_true rfl) (Nat.zero_le _) (Nat.zero_le _) (fun E h' n' _ z => det_x z) (det_k ?_)
        refine sw_istore (pc' := 77) (lv' := [(4, _), (6, _), (5, _), (3, _), (0, _), (1, _), (2, _)]) rfl dX3_end_75 (by decide +kernel) rfl ?_
        refine sw_iinc (pc' := 80) (lv' := [(5, _), (4, _), (6, _), (3, _), (0, _), (1, _), (2, _)]) (v := nI (j + 1)) rfl dX3_end_77 rfl (nI_succ j).symm (by decide +kernel) rfl ?_
        refine sw_goto (tgt := 37) dX3_end_80 (by decide +kernel) ?_
        rw [edN, if_pos c55, e1]
        refine sw_loc (lv' := [(5, .int (nI (j + 1))), (4, .int (maxI v (σ.1 k j))), (3, .ref (102 + 2 * k)), (0, .ref 100), (1, .int a), (2, .int y)]) ?_ (by intro q hq; simp only [List.mem_cons, List.not_mem_nil, or_false] at hq; rcases hq with rfl | rfl | rfl | rfl | rfl | rfl <;> simp)
        exact ih (j + 1) _ (by omega)
      · refine sw_iload (pc' := 60) rfl dX3_end_58 rfl ?_
        refine sw_iload (pc' := 62) rfl dX3_end_60 rfl ?_
        refine sw_S (M' := MJ9_min_7cf53) (d' := d - 1) (bc' := 0) (bs' := 0) (as := [_, _]) dX3_end_62 w_1067 ok_J9_min_7cf53 (m_min) (by omega) (Nat.le_of_ble_eq_true rfl) (Nat.zero_le _) (Nat.zero_le _) (fun E h' n' _ z => det_x z) (det_k ?_)
        refine sw_goto (tgt := 75) dX3_end_65 (by decide +kernel) ?_
        refine sw_istore (pc' := 77) (lv' := [(4, _), (6, _), (5, _), (3, _), (0, _), (1, _), (2, _)]) rfl dX3_end_75 (by decide +kernel) rfl ?_
        refine sw_iinc (pc' := 80) (lv' := [(5, _), (4, _), (6, _), (3, _), (0, _), (1, _), (2, _)]) (v := nI (j + 1)) rfl dX3_end_77 rfl (nI_succ j).symm (by decide +kernel) rfl ?_
        refine sw_goto (tgt := 37) dX3_end_80 (by decide +kernel) ?_
        rw [edN, if_neg c55, e1]
        refine sw_loc (lv' := [(5, .int (nI (j + 1))), (4, .int (minI v (σ.1 k j))), (3, .ref (102 + 2 * k)), (0, .ref 100), (1, .int a), (2, .int y)]) ?_ (by intro q hq; simp only [List.mem_cons, List.not_mem_nil, or_false] at hq; rcases hq with rfl | rfl | rfl | rfl | rfl | rfl <;> simp)
        exact ih (j + 1) _ (by omega)
theorem m_end {h : AH} {σ : CS} {d bc bs n : Nat} {a y : Int32} (hR : RC h σ) (hd : 6 ≤ d) (hb1 : 20 ≤ bc) (hb2 : 200 ≤ bs) : SM SR0 MX3_end d bc bs [.ref 100, .int a, .int y] h n (CP h n (opEnd σ a y)) := by
  refine sm_of pn_Overwalks rfl (Nat.le_of_ble_eq_true rfl) ?_
  refine sw_aload_n (pc' := 1) rfl dX3_end_0 rfl ?_
  refine sw_iload_n (pc' := 2) rfl dX3_end_1 rfl ?_
  rcases idxN 11 (by decide +kernel) a with q2 | ⟨k2, hk2, q2⟩
  · refine sw_V (M' := MX3_shelfAt) (d' := d - 1) (bc' := 1) (bs' := 6) (ci := 4) (as := [_]) dX3_end_2 w_402 ok_X3_shelfAt (m_shelfAt_x hR (Nat.le_refl _) (Nat.le_refl _) q2) hR.1 rfl (by omega) (Nat.le_of_ble_eq_true rfl) (by omega) (by omega) (dx_x (swx_out rfl ?_)) (fun v h' n' _ z => dx_k z)
    rw [opEnd, onSh_x q2]
    exact ⟨rfl, rfl, hR, FrC.rf⟩
  subst q2
  refine sw_V (M' := MX3_shelfAt) (d' := d - 1) (bc' := 1) (bs' := 6) (ci := 4) (as := [_]) dX3_end_2 w_402 ok_X3_shelfAt (m_shelfAt_k hR (Nat.le_refl _) (Nat.le_refl _) hk2) hR.1 rfl (by omega) (Nat.le_of_ble_eq_true rfl) (by omega) (by omega) (fun E h' n' _ z => det_x z) (det_k ?_)
  refine sw_astore_n (pc' := 6) (lv' := [(3, _), (0, _), (1, _), (2, _)]) rfl dX3_end_5 (by decide +kernel) rfl ?_
  refine sw_aload_n (pc' := 7) rfl dX3_end_6 rfl ?_
  refine sw_getf (ci := 2) (k := 2) (pc' := 10) rfl dX3_end_7 (by decide +kernel) w_84 (hR.sh hk2).1 rfl ?_
  refine sw_if_eq (pc' := 13) (tgt := 22) rfl dX3_end_10 (by decide +kernel) (fun c10 => ?_) (fun c10 => ?_)
  · refine sw_aload_n (pc' := 23) rfl dX3_end_22 rfl ?_
    refine sw_V (M' := MX3_refuse) (d' := d - 1) (bc' := 0) (bs' := 0) (ci := 4) (as := []) dX3_end_23 w_439 ok_X3_refuse (m_refuse hR) hR.1 rfl (by omega) (Nat.le_of_ble_eq_true rfl) (by omega) (by omega) (fun E h' n' _ z => cp_x z) (cp_k (fun p23 p23R p23F => ?_))
    refine sw_ret (v := some _) ⟨dX3_end_26, _, rfl, rfl⟩ ?_
    rw [opEnd, onSh_k hk2, if_pos (Or.inl (Nat.eq_zero_of_not_pos (fun g => nI_ne0 g (by have := (hR.sh hk2).2.2.1; omega) c10)))]
    exact ⟨rfl, rfl, p23R, p23F⟩
  · refine sw_aload_n (pc' := 14) rfl dX3_end_13 rfl ?_
    refine sw_bipush (pc' := 16) (v := 100) rfl dX3_end_14 (by decide +kernel) ?_
    refine sw_V (M' := MX1_holds) (d' := d - 1) (bc' := 0) (bs' := 0) (ci := 2) (as := [_]) dX3_end_16 w_530 ok_X1_holds (m_holds (hR.sh hk2) (by omega)) (hR.sh hk2).1 rfl (by omega) (Nat.le_of_ble_eq_true rfl) (by omega) (by omega) (fun E h' n' _ z => det_x z) (det_k ?_)
    refine sw_if_eq (pc' := 22) (tgt := 27) rfl dX3_end_19 (by decide +kernel) (fun c19 => ?_) (fun c19 => ?_)
    · refine sw_aload_n (pc' := 28) rfl dX3_end_27 rfl ?_
      refine sw_iconst (pc' := 29) (v := 0) rfl dX3_end_28 (by decide +kernel) ?_
      refine sw_V (M' := MX1_thingAt) (d' := d - 1) (bc' := 0) (bs' := 0) (ci := 2) (as := [_]) dX3_end_29 w_230 ok_X1_thingAt (m_thingAt (hR.sh hk2)) (hR.sh hk2).1 rfl (by omega) (Nat.le_of_ble_eq_true rfl) (by omega) (by omega) (fun E h' n' _ z => det_x z) (det_k ?_)
      refine sw_istore (pc' := 34) (lv' := [(4, _), (3, _), (0, _), (1, _), (2, _)]) rfl dX3_end_32 (by decide +kernel) rfl ?_
      refine sw_iconst (pc' := 35) (v := 1) rfl dX3_end_34 (by decide +kernel) ?_
      refine sw_istore (pc' := 37) (lv' := [(5, _), (4, _), (3, _), (0, _), (1, _), (2, _)]) rfl dX3_end_35 (by decide +kernel) rfl ?_
      have hc := (hR.sh hk2).2.2.1
      have hc0 : 0 < σ.2.1 k2 := Nat.pos_of_ne_zero (fun e => c10 (by rw [e]; rfl))
      rw [opEnd, onSh_k hk2, if_neg (fun q => q.elim (fun e => by omega) (fun e => Bool.noConfusion (e.symm.trans (bI_0 c19)))), show taI (σ.1 k2) (σ.2.1 k2) 0 = σ.1 k2 0 from taI_in hc0 hc]
      exact l_end hR hk2 (by omega) (σ.2.1 k2 - 1) 1 _ (by omega)
    · refine sw_aload_n (pc' := 23) rfl dX3_end_22 rfl ?_
      refine sw_V (M' := MX3_refuse) (d' := d - 1) (bc' := 0) (bs' := 0) (ci := 4) (as := []) dX3_end_23 w_439 ok_X3_refuse (m_refuse hR) hR.1 rfl (by omega) (Nat.le_of_ble_eq_true rfl) (by omega) (by omega) (fun E h' n' _ z => cp_x z) (cp_k (fun p23 p23R p23F => ?_))
      refine sw_ret (v := some _) ⟨dX3_end_26, _, rfl, rfl⟩ ?_
      rw [opEnd, onSh_k hk2, if_pos (Or.inr (bI_1 c19))]
      exact ⟨rfl, rfl, p23R, p23F⟩
theorem m_floorMod {h : AH} {d bc bs n : Nat} {x y : Int32} (hz : ¬ y = 0) : SM SR0 MJ9_floorMod_7cf53 d bc bs [.int x, .int y] h n (Det (rI (fmI x y)) h n) := by
  refine sm_ofF (pf_of rfl rfl) rfl (Nat.le_of_ble_eq_true rfl) ?_
  refine sw_iload_n (pc' := 1) rfl dJ9_floorMod_7cf53_0 rfl ?_
  refine sw_iload_n (pc' := 2) rfl dJ9_floorMod_7cf53_1 rfl ?_
  refine sw_irem (pc' := 3) rfl dJ9_floorMod_7cf53_2 hz ?_
  refine sw_istore_n (pc' := 4) (lv' := [(2, _), (0, _), (1, _)]) rfl dJ9_floorMod_7cf53_3 (by decide +kernel) rfl ?_
  refine sw_iload_n (pc' := 5) rfl dJ9_floorMod_7cf53_4 rfl ?_
  refine sw_iload_n (pc' := 6) rfl dJ9_floorMod_7cf53_5 rfl ?_
  refine sw_ixor (pc' := 7) rfl dJ9_floorMod_7cf53_6 ?_
  refine sw_if_ge (pc' := 10) (tgt := 18) rfl dJ9_floorMod_7cf53_7 (by decide +kernel) (fun c7 => ?_) (fun c7 => ?_)
  · refine sw_iload_n (pc' := 19) rfl dJ9_floorMod_7cf53_18 rfl ?_
    refine sw_ret (v := some _) ⟨dJ9_floorMod_7cf53_19, _, rfl, rfl⟩ ?_
    exact ⟨by rw [fmI, if_pos c7]; rfl, rfl, rfl⟩
  · refine sw_iload_n (pc' := 11) rfl dJ9_floorMod_7cf53_10 rfl ?_
    refine sw_if_eq (pc' := 14) (tgt := 18) rfl dJ9_floorMod_7cf53_11 (by decide +kernel) (fun c11 => ?_) (fun c11 => ?_)
    · refine sw_iload_n (pc' := 19) rfl dJ9_floorMod_7cf53_18 rfl ?_
      refine sw_ret (v := some _) ⟨dJ9_floorMod_7cf53_19, _, rfl, rfl⟩ ?_
      exact ⟨by rw [fmI, if_neg c7, if_pos c11]; rfl, rfl, rfl⟩
    · refine sw_iload_n (pc' := 15) rfl dJ9_floorMod_7cf53_14 rfl ?_
      refine sw_iload_n (pc' := 16) rfl dJ9_floorMod_7cf53_15 rfl ?_
      refine sw_iadd (pc' := 17) rfl dJ9_floorMod_7cf53_16 ?_
      refine sw_ret (v := some _) ⟨dJ9_floorMod_7cf53_17, _, rfl, rfl⟩ ?_
      exact ⟨by rw [fmI, if_neg c7, if_neg c11]; rfl, rfl, rfl⟩
theorem rng41 {x : Int32} (h : ¬ (x < -20 ∨ 20 < x)) : ∃ i : Nat, i < 41 ∧ x = nI i - 20 := by
  have h1 : (-20 : Int32) ≤ x := Int32.not_lt.mp (fun q => h (Or.inl q))
  have h2 : x ≤ 20 := Int32.not_lt.mp (fun q => h (Or.inr q))
  have g1 : (-20 : Int) ≤ x.toInt := Int32.le_iff_toInt_le.mp h1
  have g2 : x.toInt ≤ 20 := Int32.le_iff_toInt_le.mp h2
  refine ⟨(x.toInt + 20).toNat, by omega, ?_⟩
  apply Int32.toInt_inj.mp
  rw [Int32.toInt_sub, nI_toInt (by omega), show (20 : Int32).toInt = 20 from rfl, Int.toNat_of_nonneg (by omega), Int.bmod_def]
  split <;> omega
theorem fm_all : ∀ c, c < 12 → ∀ i, i < 41 → fmI (nI i - 20) (nI (c + 1)) = nI (fmI (nI i - 20) (nI (c + 1))).toNatClampNeg ∧ (fmI (nI i - 20) (nI (c + 1))).toNatClampNeg ≤ c + 1 := by decide +kernel
theorem fm_in {c : Nat} {x : Int32} (hc : c ≤ 12) (h0 : ¬ c = 0) (h : ¬ (x < -20 ∨ 20 < x)) : fmI x (nI c) = nI (fmI x (nI c)).toNatClampNeg ∧ (fmI x (nI c)).toNatClampNeg ≤ c := by
  obtain ⟨i, hi, rfl⟩ := rng41 h
  obtain ⟨c', rfl⟩ : ∃ c', c = c' + 1 := ⟨c - 1, by omega⟩
  exact fm_all c' (by omega) i hi
def mvO (f : Nat → Int32) (c y : Nat) : Nat → Int32 := rvN (rvN (rvN f 0 (0 + c)) 0 (0 + y)) y (y + (c - y))
def opRotate (σ : CS) (a x : Int32) : ARes × CS := onRw a σ (fun k => if x < -20 ∨ 20 < x then (xA, σ) else if σ.2.1 k = 0 then (rI (nI (σ.2.1 k)), sU σ k (σ.1 k) (σ.2.1 k) (σ.2.2.1 k) (σ.2.2.2.1 k + 1)) else (rI (nI (σ.2.1 k)), sU σ k (mvO (σ.1 k) (σ.2.1 k) (fmI x (nI (σ.2.1 k))).toNatClampNeg) (σ.2.1 k) (σ.2.2.1 k) (σ.2.2.2.1 k + 1)))
theorem m_rotate {h : AH} {σ : CS} {d bc bs n : Nat} {a x : Int32} (hR : RC h σ) (hd : 6 ≤ d) (hb1 : 20 ≤ bc) (hb2 : 200 ≤ bs) : SM SR0 MX3_rotate d bc bs [.ref 100, .int a, .int x] h n (CP h n (opRotate σ a x)) := by
  refine sm_of pn_Overwalks rfl (Nat.le_of_ble_eq_true rfl) ?_
  refine sw_aload_n (pc' := 1) rfl dX3_rotate_0 rfl ?_
  refine sw_iload_n (pc' := 2) rfl dX3_rotate_1 rfl ?_
  rcases idxN 11 (by decide +kernel) a with q2 | ⟨k2, hk2, q2⟩
  · refine sw_V (M' := MX3_rowAt) (d' := d - 1) (bc' := 2) (bs' := 12) (ci := 4) (as := [_]) dX3_rotate_2 w_541 ok_X3_rowAt (m_rowAt_x hR (Nat.le_refl _) (Nat.le_refl _) (by omega) q2) hR.1 rfl (by omega) (Nat.le_of_ble_eq_true rfl) (by omega) (by omega) (dx_x (swx_out rfl ?_)) (fun v h' n' _ z => dx_k z)
    rw [opRotate, onRw_x q2]
    exact ⟨rfl, rfl, hR, FrC.rf⟩
  subst q2
  rcases Classical.em (kP (kdO k2) = false) with q2 | q2
  · refine sw_V (M' := MX3_rowAt) (d' := d - 1) (bc' := 2) (bs' := 12) (ci := 4) (as := [_]) dX3_rotate_2 w_541 ok_X3_rowAt (m_rowAt_y hR (Nat.le_refl _) (Nat.le_refl _) (by omega) hk2 q2) hR.1 rfl (by omega) (Nat.le_of_ble_eq_true rfl) (by omega) (by omega) (dx_x (swx_out rfl ?_)) (fun v h' n' _ z => dx_k z)
    rw [opRotate, onRw_y hk2 q2]
    exact ⟨rfl, rfl, hR, FrC.rf⟩
  refine sw_V (M' := MX3_rowAt) (d' := d - 1) (bc' := 2) (bs' := 12) (ci := 4) (as := [_]) dX3_rotate_2 w_541 ok_X3_rowAt (m_rowAt_k hR (Nat.le_refl _) (Nat.le_refl _) (by omega) hk2 q2) hR.1 rfl (by omega) (Nat.le_of_ble_eq_true rfl) (by omega) (by omega) (fun E h' n' _ z => det_x z) (det_k ?_)
  refine sw_astore_n (pc' := 6) (lv' := [(3, _), (0, _), (1, _), (2, _)]) rfl dX3_rotate_5 (by decide +kernel) rfl ?_
  refine sw_iload_n (pc' := 7) rfl dX3_rotate_6 rfl ?_
  refine sw_bipush (pc' := 9) (v := (-20)) rfl dX3_rotate_7 (by decide +kernel) ?_
  refine sw_icmp_lt (pc' := 12) (tgt := 18) rfl dX3_rotate_9 (by decide +kernel) (fun c9 => ?_) (fun c9 => ?_)
  · refine sw_throw (names := ["java/lang/RuntimeException", "java/lang/Exception"]) rfl dX3_rotate_18 dX3_rotate_21 dX3_rotate_22 dX3_rotate_24 dX3_rotate_27 (by decide +kernel) (by decide +kernel) (by decide +kernel) w_285 w_50 (SRm 10 rfl) th_Overwalks_154 (by omega) (by omega) ?_
    rw [opRotate, onRw_k hk2 q2, if_pos (Or.inl c9)]
    exact ⟨rfl, rfl, hR, FrC.rf⟩
  · refine sw_iload_n (pc' := 13) rfl dX3_rotate_12 rfl ?_
    refine sw_bipush (pc' := 15) (v := 20) rfl dX3_rotate_13 (by decide +kernel) ?_
    refine sw_icmp_le (pc' := 18) (tgt := 28) rfl dX3_rotate_15 (by decide +kernel) (fun c15 => ?_) (fun c15 => ?_)
    · refine sw_aload_n (pc' := 29) rfl dX3_rotate_28 rfl ?_
      refine sw_dup (pc' := 30) rfl dX3_rotate_29 rfl ?_
      refine sw_getf (ci := 2) (k := 4) (pc' := 33) rfl dX3_rotate_30 (by decide +kernel) w_89 (hR.sh hk2).1 rfl ?_
      refine sw_iconst (pc' := 34) (v := 1) rfl dX3_rotate_33 (by decide +kernel) ?_
      refine sw_iadd (pc' := 35) rfl dX3_rotate_34 ?_
      refine sw_putf (ci := 2) (k := 4) (pc' := 38) rfl dX3_rotate_35 (by decide +kernel) (by decide +kernel) w_89 rfl (hR.sh hk2).1 (hR.sh hk2).2.2.2 (Nat.le_of_ble_eq_true rfl) rfl rfl ?_
      refine sw_nm (fun g1 eg1 => ?_)
      have zk2 := (congrFun eg1 _).trans (up_s (h := h) (i := (102 + 2 * k2)))
      have zk3 := ((congrFun eg1 100).trans (up_n (h := h) (by omega))).trans hR.1
      have zk4 := ((congrFun eg1 ((102 + 2 * k2) + 1)).trans (up_n (h := h) (by omega))).trans (hR.sh hk2).2.1
      refine sw_aload_n (pc' := 39) rfl dX3_rotate_38 rfl ?_
      refine sw_getf (ci := 2) (k := 2) (pc' := 42) rfl dX3_rotate_39 (by decide +kernel) w_84 zk2 rfl ?_
      refine sw_if_le (pc' := 45) (tgt := 57) rfl dX3_rotate_42 (by decide +kernel) (fun c42 => ?_) (fun c42 => ?_)
      · refine sw_aload_n (pc' := 58) rfl dX3_rotate_57 rfl ?_
        refine sw_getf (ci := 2) (k := 2) (pc' := 61) rfl dX3_rotate_58 (by decide +kernel) w_84 zk2 rfl ?_
        refine sw_ret (v := some _) ⟨dX3_rotate_61, _, rfl, rfl⟩ ?_
        have hc0 : σ.2.1 k2 = 0 := by
          apply Nat.eq_zero_of_not_pos
          exact fun g => nI_nle g (by have := (hR.sh hk2).2.2.1; omega) c42
        rw [opRotate, onRw_k hk2 q2, if_neg (fun q => q.elim c9 (Int32.not_lt.mpr c15)), if_pos hc0]
        exact ⟨rfl, rfl, hR.sU hk2 (show ShF g1 (102 + 2 * k2) (kdO k2) (σ.1 k2) (σ.2.1 k2) (σ.2.2.1 k2) (σ.2.2.2.1 k2 + 1) from ⟨zk2, zk4, (hR.sh hk2).2.2⟩) (show FrS h g1 (102 + 2 * k2) from (fun i h1 h2 => (congrFun eg1 i).trans ((up_n h1).trans (rfl)))), ((show FrS h g1 (102 + 2 * k2) from (fun i h1 h2 => (congrFun eg1 i).trans ((up_n h1).trans (rfl))))).c hk2⟩
      · have hc := (hR.sh hk2).2.2.1
        have hc0 : ¬ σ.2.1 k2 = 0 := fun e => c42 (by rw [e]; decide)
        have hfm := fm_in (x := x) hc hc0 (fun q => q.elim c9 (Int32.not_lt.mpr c15))
        refine sw_aload_n (pc' := 46) rfl dX3_rotate_45 rfl ?_
        refine sw_iload_n (pc' := 47) rfl dX3_rotate_46 rfl ?_
        refine sw_aload_n (pc' := 48) rfl dX3_rotate_47 rfl ?_
        refine sw_getf (ci := 2) (k := 2) (pc' := 51) rfl dX3_rotate_48 (by decide +kernel) w_84 zk2 rfl ?_
        refine sw_S (M' := MJ9_floorMod_7cf53) (d' := d - 1) (bc' := 0) (bs' := 0) (as := [_, _]) dX3_rotate_51 w_584 ok_J9_floorMod_7cf53 (m_floorMod (fun e => c42 (by rw [e]; decide))) (by omega) (Nat.le_of_ble_eq_true rfl) (Nat.zero_le _) (Nat.zero_le _) (fun E h' n' _ z => det_x z) (det_k ?_)
        rw [hfm.1]
        refine sw_V (M' := MX1_moveOn) (d' := d - 1) (bc' := 0) (bs' := 0) (ci := 2) (as := [_]) dX3_rotate_54 w_587 ok_X1_moveOn (m_moveOn (show ShF g1 (102 + 2 * k2) (kdO k2) (σ.1 k2) (σ.2.1 k2) (σ.2.2.1 k2) (σ.2.2.2.1 k2 + 1) from ⟨zk2, zk4, (hR.sh hk2).2.2⟩) (by omega) hfm.2) (show ShF g1 (102 + 2 * k2) (kdO k2) (σ.1 k2) (σ.2.1 k2) (σ.2.2.1 k2) (σ.2.2.2.1 k2 + 1) from ⟨zk2, zk4, (hR.sh hk2).2.2⟩).1 rfl (by omega) (Nat.le_of_ble_eq_true rfl) (by omega) (by omega) (fun E h' n' _ z => shp_x z) (shp_k (fun p54 p54S p54F => ?_))
        refine sw_aload_n (pc' := 58) rfl dX3_rotate_57 rfl ?_
        refine sw_getf (ci := 2) (k := 2) (pc' := 61) rfl dX3_rotate_58 (by decide +kernel) w_84 p54S.1 rfl ?_
        refine sw_ret (v := some _) ⟨dX3_rotate_61, _, rfl, rfl⟩ ?_
        rw [opRotate, onRw_k hk2 q2, if_neg (fun q => q.elim c9 (Int32.not_lt.mpr c15)), if_neg hc0]
        exact ⟨rfl, rfl, hR.sU hk2 p54S ((show FrS h g1 (102 + 2 * k2) from (fun i h1 h2 => (congrFun eg1 i).trans ((up_n h1).trans (rfl)))).tr p54F), (((show FrS h g1 (102 + 2 * k2) from (fun i h1 h2 => (congrFun eg1 i).trans ((up_n h1).trans (rfl)))).tr p54F)).c hk2⟩
    · refine sw_throw (names := ["java/lang/RuntimeException", "java/lang/Exception"]) rfl dX3_rotate_18 dX3_rotate_21 dX3_rotate_22 dX3_rotate_24 dX3_rotate_27 (by decide +kernel) (by decide +kernel) (by decide +kernel) w_285 w_50 (SRm 10 rfl) th_Overwalks_154 (by omega) (by omega) ?_
      rw [opRotate, onRw_k hk2 q2, if_pos (Or.inr (Int32.not_le.mp c15))]
      exact ⟨rfl, rfl, hR, FrC.rf⟩
end
