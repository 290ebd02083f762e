/-! the class's picture -/
/-- a WALK: made, number of its SHELF, how, given, takenOut, shiftsSeen, turnsSeen, hasLast -/
abbrev WT : Type := Bool × Nat × Int32 × Int32 × Int32 × Int32 × Int32 × Bool
/-- things, counts, shifts, turns, walks, refusals, knocks -/
abbrev CS : Type := (Nat → Nat → Int32) × (Nat → Nat) × (Nat → Int32) × (Nat → Int32) × (Nat → WT) × Int32 × Int32
def kdO (k : Nat) : Nat := if k < 3 then 1 else if k = 3 then 2 else if k = 4 then 3 else if k = 5 then 4 else if k < 8 then 5 else 1
theorem kdO_r {k : Nat} : 1 ≤ kdO k ∧ kdO k ≤ 5 := by unfold kdO; split <;> (try split) <;> (try split) <;> (try split) <;> (try split) <;> omega
def WkW (h : AH) (w : Nat) (q : WT) : Prop := q.2.1 < 11 ∧ WkF h w q.1 (102 + 2 * q.2.1) (nI q.2.1) q.2.2.1 q.2.2.2.1 q.2.2.2.2.1 q.2.2.2.2.2.1 q.2.2.2.2.2.2.1 q.2.2.2.2.2.2.2
/-- a probe -/
def PrW (h : AH) (w : Nat) : Prop := ∃ mk b sh hw gi tk ss ts la, WkF h w mk b sh hw gi tk ss ts la
def RC (h : AH) (σ : CS) : Prop :=
  h 100 = .inr (4, [.ref 101, .ref 124, .ref 131, .ref 132, .ref 133, .int σ.2.2.2.2.2.1, .int σ.2.2.2.2.2.2]) ∧
  (∃ g, h 101 = .inl (3, 11, .inr (.inr (.inr (.inr g)))) ∧ ∀ k, k < 11 → g k = some (102 + 2 * k)) ∧
  (∃ g, h 124 = .inl (4, 6, .inr (.inr (.inr (.inr g)))) ∧ ∀ k, k < 6 → g k = some (125 + k)) ∧
  (∀ k, k < 11 → ShF h (102 + 2 * k) (kdO k) (σ.1 k) (σ.2.1 k) (σ.2.2.1 k) (σ.2.2.2.1 k)) ∧
  (∀ k, k < 6 → WkW h (125 + k) (σ.2.2.2.2.1 k)) ∧ PrW h 131 ∧ PrW h 132 ∧ (∃ f c s t, ShF h 133 1 f c s t) ∧ ∀ k, 1 ≤ k → k ≤ 5 → KdF h k
/-- nothing outside the class is otherwise -/
def FrC (h h' : AH) (n : Nat) : Prop := ∀ i, i < 100 ∨ 135 ≤ i → i < n → h' i = h i
theorem FrC.rf {h : AH} {n : Nat} : FrC h h n := fun _ _ _ => rfl
theorem FrC.tr {h h1 h2 : AH} {n m : Nat} (a : FrC h h1 n) (c : FrC h1 h2 m) (hm : n ≤ m) : FrC h h2 n := fun i p q => (c i p (Nat.lt_of_lt_of_le q hm)).trans (a i p q)
theorem FrS.c {h h' : AH} {k n : Nat} (hF : FrS h h' (102 + 2 * k)) (hk : k < 11) : FrC h h' n := fun i p _ => hF i (by omega) (by omega)
theorem FrW.c {h h' : AH} {w n : Nat} (hF : FrW h h' w) (h1 : 100 ≤ w) (h2 : w < 135) : FrC h h' n := fun i p _ => hF i (by omega)
def sU (σ : CS) (k : Nat) (f : Nat → Int32) (c : Nat) (s t : Int32) : CS := (up σ.1 k f, up σ.2.1 k c, up σ.2.2.1 k s, up σ.2.2.2.1 k t, σ.2.2.2.2)
def wU (σ : CS) (k : Nat) (q : WT) : CS := (σ.1, σ.2.1, σ.2.2.1, σ.2.2.2.1, up σ.2.2.2.2.1 k q, σ.2.2.2.2.2)
def rfU (σ : CS) : CS := (σ.1, σ.2.1, σ.2.2.1, σ.2.2.2.1, σ.2.2.2.2.1, σ.2.2.2.2.2.1 + 1, σ.2.2.2.2.2.2)
def knU (σ : CS) : CS := (σ.1, σ.2.1, σ.2.2.1, σ.2.2.2.1, σ.2.2.2.2.1, σ.2.2.2.2.2.1, σ.2.2.2.2.2.2 + 1)
theorem RC.sh {h : AH} {σ : CS} (hR : RC h σ) {k : Nat} (hk : k < 11) : ShF h (102 + 2 * k) (kdO k) (σ.1 k) (σ.2.1 k) (σ.2.2.1 k) (σ.2.2.2.1 k) := hR.2.2.2.1 k hk
theorem RC.wk {h : AH} {σ : CS} (hR : RC h σ) {k : Nat} (hk : k < 6) : WkW h (125 + k) (σ.2.2.2.2.1 k) := hR.2.2.2.2.1 k hk
theorem RC.kd {h : AH} {σ : CS} (hR : RC h σ) {k : Nat} (h1 : 1 ≤ k ∧ k ≤ 5) : KdF h k := hR.2.2.2.2.2.2.2.2 k h1.1 h1.2
theorem PrW.frS {h h' : AH} {w b : Nat} (hP : PrW h w) (hF : FrS h h' b) (h1 : w ≠ b ∧ w ≠ b + 1) : PrW h' w := by
  obtain ⟨mk, b1, sh, hw, gi, tk, ss, ts, la, h9⟩ := hP
  exact ⟨mk, b1, sh, hw, gi, tk, ss, ts, la, h9.frS hF h1⟩
theorem PrW.frW {h h' : AH} {w b : Nat} (hP : PrW h w) (hF : FrW h h' b) (h1 : w ≠ b) : PrW h' w := by
  obtain ⟨mk, b1, sh, hw, gi, tk, ss, ts, la, h9⟩ := hP
  exact ⟨mk, b1, sh, hw, gi, tk, ss, ts, la, h9.frW hF h1⟩
/-- a SHELF is otherwise -/
theorem RC.sU {h h' : AH} {σ : CS} (hR : RC h σ) {k c : Nat} {f : Nat → Int32} {s t : Int32} (hk : k < 11) (hS : ShF h' (102 + 2 * k) (kdO k) f c s t) (hF : FrS h h' (102 + 2 * k)) : RC h' (sU σ k f c s t) := by
  obtain ⟨g1, ⟨a, g2, g2'⟩, ⟨a1, g3, g3'⟩, g4, g5, g6, g7, ⟨f8, c8, s8, t8, g8⟩, g9⟩ := id hR
  refine ⟨(hF 100 (by omega) (by omega)).trans g1, ⟨a, (hF 101 (by omega) (by omega)).trans g2, g2'⟩, ⟨a1, (hF 124 (by omega) (by omega)).trans g3, g3'⟩, fun j hj => ?_, fun j hj => ⟨(g5 j hj).1, (g5 j hj).2.frS hF (by omega)⟩, g6.frS hF (by omega), g7.frS hF (by omega), ⟨f8, c8, s8, t8, g8.fr hF (by omega)⟩, fun j h1 h2 => (g9 j h1 h2).fr hF hS.2.2.2⟩
  by_cases e : j = k
  · subst e
    show ShF h' _ _ (up σ.1 j f j) (up σ.2.1 j c j) (up σ.2.2.1 j s j) (up σ.2.2.2.1 j t j)
    rw [up_s, up_s, up_s, up_s]
    exact hS
  · show ShF h' _ _ (up σ.1 k f j) (up σ.2.1 k c j) (up σ.2.2.1 k s j) (up σ.2.2.2.1 k t j)
    rw [up_n e, up_n e, up_n e, up_n e]
    exact (g4 j hj).fr hF (by omega)
/-- a WALK is otherwise -/
theorem RC.wU {h h' : AH} {σ : CS} (hR : RC h σ) {k : Nat} {q : WT} (hk : k < 6) (hW : WkW h' (125 + k) q) (hF : FrW h h' (125 + k)) : RC h' (wU σ k q) := by
  obtain ⟨g1, ⟨a, g2, g2'⟩, ⟨a1, g3, g3'⟩, g4, g5, g6, g7, ⟨f8, c8, s8, t8, g8⟩, g9⟩ := id hR
  refine ⟨(hF 100 (by omega)).trans g1, ⟨a, (hF 101 (by omega)).trans g2, g2'⟩, ⟨a1, (hF 124 (by omega)).trans g3, g3'⟩, fun j hj => (g4 j hj).frW hF (by omega), fun j hj => ?_, g6.frW hF (by omega), g7.frW hF (by omega), ⟨f8, c8, s8, t8, g8.frW hF (by omega)⟩, fun j h1 h2 => (g9 j h1 h2).frW hF hW.2.2⟩
  by_cases e : j = k
  · subst e
    show WkW h' _ (up σ.2.2.2.2.1 j q j)
    rw [up_s]
    exact hW
  · show WkW h' _ (up σ.2.2.2.2.1 k q j)
    rw [up_n e]
    exact ⟨(g5 j hj).1, (g5 j hj).2.frW hF (by omega)⟩
/-- a number of the class is otherwise -/
theorem RC.oU {h h' : AH} {σ : CS} {x y : Int32} (hR : RC h σ) (h1 : h' 100 = .inr (4, [.ref 101, .ref 124, .ref 131, .ref 132, .ref 133, .int x, .int y])) (hF : FrW h h' 100) : RC h' (σ.1, σ.2.1, σ.2.2.1, σ.2.2.2.1, σ.2.2.2.2.1, x, y) := by
  obtain ⟨g1, ⟨a, g2, g2'⟩, ⟨a1, g3, g3'⟩, g4, g5, g6, g7, ⟨f8, c8, s8, t8, g8⟩, g9⟩ := id hR
  exact ⟨h1, ⟨a, (hF 101 (by omega)).trans g2, g2'⟩, ⟨a1, (hF 124 (by omega)).trans g3, g3'⟩, fun j hj => (g4 j hj).frW hF (by omega), fun j hj => ⟨(g5 j hj).1, (g5 j hj).2.frW hF (by omega)⟩, g6.frW hF (by omega), g7.frW hF (by omega), ⟨f8, c8, s8, t8, g8.frW hF (by omega)⟩, fun j h1 h2 => (g9 j h1 h2).frW hF (Nat.le_refl _)⟩
/-- an end of a call: what it answers, what is then -/
def CP (h : AH) (n : Nat) (q : ARes × CS) : ARes → AH → Nat → Prop := fun r' h' n' => r' = q.1 ∧ n' = n ∧ RC h' q.2 ∧ FrC h h' n
theorem cp_k {A : Nat → AH → Option Value → Prop} {h : AH} {σ : CS} {n n0 : Nat} {r : Option Value} (k : ∀ h', RC h' σ → FrC h h' n → A n h' r) : ∀ (v : Option Value) (h' : AH) (n' : Nat), n0 ≤ n' → CP h n (.inl r, σ) (.inl v) h' n' → A n' h' v := by
  rintro v h' n' - ⟨e, rfl, g1, g2⟩
  cases e
  exact k h' g1 g2
theorem cp_x {A : Prop} {h : AH} {σ : CS} {n : Nat} {r : Option Value} {E : String} {h' : AH} {n' : Nat} (z : CP h n (.inl r, σ) (.inr E) h' n') : A := by cases z.1
theorem dx_x {A : String → AH → Nat → Prop} {E0 : String} {h0 : AH} {n0 n : Nat} (k : A E0 h0 n0) : ∀ (E : String) (h' : AH) (n' : Nat), n ≤ n' → Det (.inr E0) h0 n0 (.inr E) h' n' → A E h' n' := by
  rintro E h' n' - ⟨e, rfl, rfl⟩
  cases e
  exact k
theorem dx_k {A : Prop} {E0 : String} {h0 : AH} {n0 : Nat} {v : Option Value} {h' : AH} {n' : Nat} (z : Det (.inr E0) h0 n0 (.inl v) h' n') : A := by cases z.1
def xI : ARes := .inr "java/lang/IndexOutOfBoundsException"
def xA : ARes := .inr "java/lang/IllegalArgumentException"
def xS : ARes := .inr "java/lang/IllegalStateException"
def rI (x : Int32) : ARes := .inl (some (.int x))
def ivN : ARes := .inl none
theorem m_requireThing {h : AH} {d bc bs n : Nat} {x : Int32} (h1 : 1 ≤ bc) (h2 : 6 ≤ bs) : SM SR0 MX3_requireThing d bc bs [.int x] h n (Det (if x < 0 ∨ 100 ≤ x then xA else ivN) h n) := by
  refine sm_of pn_Overwalks rfl (Nat.le_of_ble_eq_true rfl) ?_
  refine sw_iload_n (pc' := 1) rfl dX3_requireThing_0 rfl ?_
  refine sw_if_lt (pc' := 4) (tgt := 10) rfl dX3_requireThing_1 (by decide +kernel) (fun c1 => ?_) (fun c1 => ?_)
  · refine sw_throwW (names := ["java/lang/RuntimeException", "java/lang/Exception"]) rfl dX3_requireThing_10 dX3_requireThing_13 dX3_requireThing_14 dX3_requireThing_17 dX3_requireThing_20 (by decide +kernel) (by decide +kernel) (by decide +kernel) w_285 w_50 (SRm 7 rfl) th_Overwalks_154 (by omega) (by omega) ?_
    exact ⟨by rw [if_pos (Or.inl c1)]; rfl, rfl, rfl⟩
  · refine sw_iload_n (pc' := 5) rfl dX3_requireThing_4 rfl ?_
    refine sw_bipush (pc' := 7) (v := 100) rfl dX3_requireThing_5 (by decide +kernel) ?_
    refine sw_icmp_lt (pc' := 10) (tgt := 21) rfl dX3_requireThing_7 (by decide +kernel) (fun c7 => ?_) (fun c7 => ?_)
    · refine sw_ret (v := none) ⟨dX3_requireThing_21, rfl⟩ ?_
      exact ⟨by rw [if_neg (fun q => q.elim c1 (Int32.not_le.mpr c7))]; rfl, rfl, rfl⟩
    · refine sw_throwW (names := ["java/lang/RuntimeException", "java/lang/Exception"]) rfl dX3_requireThing_10 dX3_requireThing_13 dX3_requireThing_14 dX3_requireThing_17 dX3_requireThing_20 (by decide +kernel) (by decide +kernel) (by decide +kernel) w_285 w_50 (SRm 7 rfl) th_Overwalks_154 (by omega) (by omega) ?_
      exact ⟨by rw [if_pos (Or.inr (Int32.not_lt.mp c7))]; rfl, rfl, rfl⟩
theorem m_requireThingOrNothing {h : AH} {d bc bs n : Nat} {x : Int32} (h1 : 1 ≤ bc) (h2 : 6 ≤ bs) : SM SR0 MX3_requireThingOrNothing d bc bs [.int x] h n (Det (if x < 0 ∨ 100 < x then xA else ivN) h n) := by
  refine sm_of pn_Overwalks rfl (Nat.le_of_ble_eq_true rfl) ?_
  refine sw_iload_n (pc' := 1) rfl dX3_requireThingOrNothing_0 rfl ?_
  refine sw_if_lt (pc' := 4) (tgt := 10) rfl dX3_requireThingOrNothing_1 (by decide +kernel) (fun c1 => ?_) (fun c1 => ?_)
  · refine sw_throwW (names := ["java/lang/RuntimeException", "java/lang/Exception"]) rfl dX3_requireThingOrNothing_10 dX3_requireThingOrNothing_13 dX3_requireThingOrNothing_14 dX3_requireThingOrNothing_17 dX3_requireThingOrNothing_20 (by decide +kernel) (by decide +kernel) (by decide +kernel) w_285 w_50 (SRm 4 rfl) th_Overwalks_154 (by omega) (by omega) ?_
    exact ⟨by rw [if_pos (Or.inl c1)]; rfl, rfl, rfl⟩
  · refine sw_iload_n (pc' := 5) rfl dX3_requireThingOrNothing_4 rfl ?_
    refine sw_bipush (pc' := 7) (v := 100) rfl dX3_requireThingOrNothing_5 (by decide +kernel) ?_
    refine sw_icmp_le (pc' := 10) (tgt := 21) rfl dX3_requireThingOrNothing_7 (by decide +kernel) (fun c7 => ?_) (fun c7 => ?_)
    · refine sw_ret (v := none) ⟨dX3_requireThingOrNothing_21, rfl⟩ ?_
      exact ⟨by rw [if_neg (fun q => q.elim c1 (Int32.not_lt.mpr c7))]; rfl, rfl, rfl⟩
    · refine sw_throwW (names := ["java/lang/RuntimeException", "java/lang/Exception"]) rfl dX3_requireThingOrNothing_10 dX3_requireThingOrNothing_13 dX3_requireThingOrNothing_14 dX3_requireThingOrNothing_17 dX3_requireThingOrNothing_20 (by decide +kernel) (by decide +kernel) (by decide +kernel) w_285 w_50 (SRm 4 rfl) th_Overwalks_154 (by omega) (by omega) ?_
      exact ⟨by rw [if_pos (Or.inr (Int32.not_le.mp c7))]; rfl, rfl, rfl⟩
theorem m_requireUpToRoom {h : AH} {d bc bs n : Nat} {x : Int32} (h1 : 1 ≤ bc) (h2 : 6 ≤ bs) : SM SR0 MX3_requireUpToRoom d bc bs [.int x] h n (Det (if x < 0 ∨ 12 < x then xA else ivN) h n) := by
  refine sm_of pn_Overwalks rfl (Nat.le_of_ble_eq_true rfl) ?_
  refine sw_iload_n (pc' := 1) rfl dX3_requireUpToRoom_0 rfl ?_
  refine sw_if_lt (pc' := 4) (tgt := 10) rfl dX3_requireUpToRoom_1 (by decide +kernel) (fun c1 => ?_) (fun c1 => ?_)
  · refine sw_throwW (names := ["java/lang/RuntimeException", "java/lang/Exception"]) rfl dX3_requireUpToRoom_10 dX3_requireUpToRoom_13 dX3_requireUpToRoom_14 dX3_requireUpToRoom_17 dX3_requireUpToRoom_20 (by decide +kernel) (by decide +kernel) (by decide +kernel) w_285 w_50 (SRm 11 rfl) th_Overwalks_154 (by omega) (by omega) ?_
    exact ⟨by rw [if_pos (Or.inl c1)]; rfl, rfl, rfl⟩
  · refine sw_iload_n (pc' := 5) rfl dX3_requireUpToRoom_4 rfl ?_
    refine sw_bipush (pc' := 7) (v := 12) rfl dX3_requireUpToRoom_5 (by decide +kernel) ?_
    refine sw_icmp_le (pc' := 10) (tgt := 21) rfl dX3_requireUpToRoom_7 (by decide +kernel) (fun c7 => ?_) (fun c7 => ?_)
    · refine sw_ret (v := none) ⟨dX3_requireUpToRoom_21, rfl⟩ ?_
      exact ⟨by rw [if_neg (fun q => q.elim c1 (Int32.not_lt.mpr c7))]; rfl, rfl, rfl⟩
    · refine sw_throwW (names := ["java/lang/RuntimeException", "java/lang/Exception"]) rfl dX3_requireUpToRoom_10 dX3_requireUpToRoom_13 dX3_requireUpToRoom_14 dX3_requireUpToRoom_17 dX3_requireUpToRoom_20 (by decide +kernel) (by decide +kernel) (by decide +kernel) w_285 w_50 (SRm 11 rfl) th_Overwalks_154 (by omega) (by omega) ?_
      exact ⟨by rw [if_pos (Or.inr (Int32.not_le.mp c7))]; rfl, rfl, rfl⟩
theorem m_requireThingNothingOrNone {h : AH} {d bc bs n : Nat} {x : Int32} (h1 : 1 ≤ bc) (h2 : 6 ≤ bs) : SM SR0 MX3_requireThingNothingOrNone d bc bs [.int x] h n (Det (if x < -1 ∨ 100 < x then xA else ivN) h n) := by
  refine sm_of pn_Overwalks rfl (Nat.le_of_ble_eq_true rfl) ?_
  refine sw_iload_n (pc' := 1) rfl dX3_requireThingNothingOrNone_0 rfl ?_
  refine sw_iconst (pc' := 2) (v := (-1)) rfl dX3_requireThingNothingOrNone_1 (by decide +kernel) ?_
  refine sw_icmp_lt (pc' := 5) (tgt := 11) rfl dX3_requireThingNothingOrNone_2 (by decide +kernel) (fun c2 => ?_) (fun c2 => ?_)
  · refine sw_throwW (names := ["java/lang/RuntimeException", "java/lang/Exception"]) rfl dX3_requireThingNothingOrNone_11 dX3_requireThingNothingOrNone_14 dX3_requireThingNothingOrNone_15 dX3_requireThingNothingOrNone_18 dX3_requireThingNothingOrNone_21 (by decide +kernel) (by decide +kernel) (by decide +kernel) w_285 w_50 (SRm 6 rfl) th_Overwalks_154 (by omega) (by omega) ?_
    exact ⟨by rw [if_pos (Or.inl c2)]; rfl, rfl, rfl⟩
  · refine sw_iload_n (pc' := 6) rfl dX3_requireThingNothingOrNone_5 rfl ?_
    refine sw_bipush (pc' := 8) (v := 100) rfl dX3_requireThingNothingOrNone_6 (by decide +kernel) ?_
    refine sw_icmp_le (pc' := 11) (tgt := 22) rfl dX3_requireThingNothingOrNone_8 (by decide +kernel) (fun c8 => ?_) (fun c8 => ?_)
    · refine sw_ret (v := none) ⟨dX3_requireThingNothingOrNone_22, rfl⟩ ?_
      exact ⟨by rw [if_neg (fun q => q.elim c2 (Int32.not_lt.mpr c8))]; rfl, rfl, rfl⟩
    · refine sw_throwW (names := ["java/lang/RuntimeException", "java/lang/Exception"]) rfl dX3_requireThingNothingOrNone_11 dX3_requireThingNothingOrNone_14 dX3_requireThingNothingOrNone_15 dX3_requireThingNothingOrNone_18 dX3_requireThingNothingOrNone_21 (by decide +kernel) (by decide +kernel) (by decide +kernel) w_285 w_50 (SRm 6 rfl) th_Overwalks_154 (by omega) (by omega) ?_
      exact ⟨by rw [if_pos (Or.inr (Int32.not_le.mp c8))]; rfl, rfl, rfl⟩
theorem m_requirePlace {h : AH} {d bc bs n : Nat} {x y : Int32} (h1 : 1 ≤ bc) (h2 : 6 ≤ bs) : SM SR0 MX3_requirePlace d bc bs [.int x, .int y] h n (Det (if x < 0 ∨ y ≤ x then xI else ivN) h n) := by
  refine sm_of pn_Overwalks rfl (Nat.le_of_ble_eq_true rfl) ?_
  refine sw_iload_n (pc' := 1) rfl dX3_requirePlace_0 rfl ?_
  refine sw_if_lt (pc' := 4) (tgt := 9) rfl dX3_requirePlace_1 (by decide +kernel) (fun c1 => ?_) (fun c1 => ?_)
  · refine sw_throwW (names := ["java/lang/RuntimeException", "java/lang/Exception"]) rfl dX3_requirePlace_9 dX3_requirePlace_12 dX3_requirePlace_13 dX3_requirePlace_16 dX3_requirePlace_19 (by decide +kernel) (by decide +kernel) (by decide +kernel) w_361 w_49 (SRm 9 rfl) th_Overwalks_339 (by omega) (by omega) ?_
    exact ⟨by rw [if_pos (Or.inl c1)]; rfl, rfl, rfl⟩
  · refine sw_iload_n (pc' := 5) rfl dX3_requirePlace_4 rfl ?_
    refine sw_iload_n (pc' := 6) rfl dX3_requirePlace_5 rfl ?_
    refine sw_icmp_lt (pc' := 9) (tgt := 20) rfl dX3_requirePlace_6 (by decide +kernel) (fun c6 => ?_) (fun c6 => ?_)
    · refine sw_ret (v := none) ⟨dX3_requirePlace_20, rfl⟩ ?_
      exact ⟨by rw [if_neg (fun q => q.elim c1 (Int32.not_le.mpr c6))]; rfl, rfl, rfl⟩
    · refine sw_throwW (names := ["java/lang/RuntimeException", "java/lang/Exception"]) rfl dX3_requirePlace_9 dX3_requirePlace_12 dX3_requirePlace_13 dX3_requirePlace_16 dX3_requirePlace_19 (by decide +kernel) (by decide +kernel) (by decide +kernel) w_361 w_49 (SRm 9 rfl) th_Overwalks_339 (by omega) (by omega) ?_
      exact ⟨by rw [if_pos (Or.inr (Int32.not_lt.mp c6))]; rfl, rfl, rfl⟩
theorem m_requireRoom {h : AH} {b kd c d bc bs n : Nat} {f : Nat → Int32} {s t x : Int32} (hS : ShF h b kd f c s t) (h1 : 1 ≤ bc) (h2 : 6 ≤ bs) : SM SR0 MX3_requireRoom d bc bs [.ref b, .int x] h n (Det (if 12 < nI c + x then xS else ivN) h n) := by
  refine sm_of pn_Overwalks rfl (Nat.le_of_ble_eq_true rfl) ?_
  refine sw_aload_n (pc' := 1) rfl dX3_requireRoom_0 rfl ?_
  refine sw_getf (ci := 2) (k := 2) (pc' := 4) rfl dX3_requireRoom_1 (by decide +kernel) w_84 hS.1 rfl ?_
  refine sw_iload_n (pc' := 5) rfl dX3_requireRoom_4 rfl ?_
  refine sw_iadd (pc' := 6) rfl dX3_requireRoom_5 ?_
  refine sw_bipush (pc' := 8) (v := 12) rfl dX3_requireRoom_6 (by decide +kernel) ?_
  refine sw_icmp_le (pc' := 11) (tgt := 22) rfl dX3_requireRoom_8 (by decide +kernel) (fun c8 => ?_) (fun c8 => ?_)
  · refine sw_ret (v := none) ⟨dX3_requireRoom_22, rfl⟩ ?_
    exact ⟨by rw [if_neg (Int32.not_lt.mpr c8)]; rfl, rfl, rfl⟩
  · refine sw_throwW (names := ["java/lang/RuntimeException", "java/lang/Exception"]) rfl dX3_requireRoom_11 dX3_requireRoom_14 dX3_requireRoom_15 dX3_requireRoom_18 dX3_requireRoom_21 (by decide +kernel) (by decide +kernel) (by decide +kernel) w_414 w_51 (SRm 5 rfl) th_Overwalks_356 (by omega) (by omega) ?_
    exact ⟨by rw [if_pos (Int32.not_le.mp c8)]; rfl, rfl, rfl⟩
theorem m_requireMade {h : AH} {w b d bc bs n : Nat} {mk la : Bool} {sh hw gi tk ss ts : Int32} (hW : WkF h w mk b sh hw gi tk ss ts la) (h1 : 1 ≤ bc) (h2 : 6 ≤ bs) : SM SR0 MX3_requireMade d bc bs [.ref w] h n (Det (if mk = false then xS else ivN) h n) := by
  refine sm_of pn_Overwalks rfl (Nat.le_of_ble_eq_true rfl) ?_
  refine sw_aload_n (pc' := 1) rfl dX3_requireMade_0 rfl ?_
  refine sw_getf (ci := 3) (k := 0) (pc' := 4) rfl dX3_requireMade_1 (by decide +kernel) w_118 hW.1 rfl ?_
  refine sw_if_ne (pc' := 7) (tgt := 18) rfl dX3_requireMade_4 (by decide +kernel) (fun c4 => ?_) (fun c4 => ?_)
  · refine sw_ret (v := none) ⟨dX3_requireMade_18, rfl⟩ ?_
    exact ⟨by rw [if_neg (by rw [bI_1 c4]; decide)]; rfl, rfl, rfl⟩
  · refine sw_throwW (names := ["java/lang/RuntimeException", "java/lang/Exception"]) rfl dX3_requireMade_7 dX3_requireMade_10 dX3_requireMade_11 dX3_requireMade_14 dX3_requireMade_17 (by decide +kernel) (by decide +kernel) (by decide +kernel) w_414 w_51 (SRm 14 rfl) th_Overwalks_356 (by omega) (by omega) ?_
    exact ⟨by rw [if_pos (bI_0 c4)]; rfl, rfl, rfl⟩
theorem m_oneIf {h : AH} {d bc bs n : Nat} {q : Bool} : SM SR0 MX3_oneIf d bc bs [.int (bI q)] h n (Det (rI (bI q)) h n) := by
  refine sm_of pn_Overwalks rfl (Nat.le_of_ble_eq_true rfl) ?_
  refine sw_iload_n (pc' := 1) rfl dX3_oneIf_0 rfl ?_
  refine sw_if_eq (pc' := 4) (tgt := 8) rfl dX3_oneIf_1 (by decide +kernel) (fun c1 => ?_) (fun c1 => ?_)
  · refine sw_iconst (pc' := 9) (v := 0) rfl dX3_oneIf_8 (by decide +kernel) ?_
    refine sw_ret (v := some _) ⟨dX3_oneIf_9, _, rfl, rfl⟩ ?_
    exact ⟨by rw [bI_0 c1]; rfl, rfl, rfl⟩
  · refine sw_iconst (pc' := 5) (v := 1) rfl dX3_oneIf_4 (by decide +kernel) ?_
    refine sw_goto (tgt := 9) dX3_oneIf_5 (by decide +kernel) ?_
    refine sw_ret (v := some _) ⟨dX3_oneIf_9, _, rfl, rfl⟩ ?_
    exact ⟨by rw [bI_1 c1]; rfl, rfl, rfl⟩
theorem m_shelfAt {h : AH} {σ : CS} {d bc bs n : Nat} {x : Int32} (hR : RC h σ) (h1 : 1 ≤ bc) (h2 : 6 ≤ bs) : SM SR0 MX3_shelfAt d bc bs [.ref 100, .int x] h n (Det (if x < 0 ∨ 11 ≤ x then xI else .inl (some (.ref (102 + 2 * x.toNatClampNeg)))) h n) := by
  refine sm_of pn_Overwalks rfl (Nat.le_of_ble_eq_true rfl) ?_
  refine sw_iload_n (pc' := 1) rfl dX3_shelfAt_0 rfl ?_
  refine sw_if_lt (pc' := 4) (tgt := 10) rfl dX3_shelfAt_1 (by decide +kernel) (fun c1 => ?_) (fun c1 => ?_)
  · refine sw_throwW (names := ["java/lang/RuntimeException", "java/lang/Exception"]) rfl dX3_shelfAt_10 dX3_shelfAt_13 dX3_shelfAt_14 dX3_shelfAt_17 dX3_shelfAt_20 (by decide +kernel) (by decide +kernel) (by decide +kernel) w_361 w_49 (SRm 3 rfl) th_Overwalks_339 (by omega) (by omega) ?_
    exact ⟨by rw [if_pos (Or.inl c1)]; rfl, rfl, rfl⟩
  · refine sw_iload_n (pc' := 5) rfl dX3_shelfAt_4 rfl ?_
    refine sw_bipush (pc' := 7) (v := 11) rfl dX3_shelfAt_5 (by decide +kernel) ?_
    refine sw_icmp_lt (pc' := 10) (tgt := 21) rfl dX3_shelfAt_7 (by decide +kernel) (fun c7 => ?_) (fun c7 => ?_)
    · obtain ⟨j, hj, rfl⟩ := nI_of c1
      obtain ⟨g, ga, gb⟩ := hR.2.1
      have hj2 : j < 11 := (nI_ltI (b := 11) hj (by decide +kernel)).mp c7
      refine sw_aload_n (pc' := 22) rfl dX3_shelfAt_21 rfl ?_
      refine sw_getf (ci := 4) (k := 0) (pc' := 25) rfl dX3_shelfAt_22 (by decide +kernel) w_150 hR.1 rfl ?_
      refine sw_iload_n (pc' := 26) rfl dX3_shelfAt_25 rfl ?_
      refine sw_aald (pc' := 27) rfl dX3_shelfAt_26 ga (by decide +kernel) (by decide +kernel) rfl hj2 (by decide +kernel) (gb j hj2) ?_
      refine sw_ret (v := some _) ⟨dX3_shelfAt_27, _, rfl, Or.inl ⟨_, rfl⟩⟩ ?_
      exact ⟨by rw [if_neg (fun q => q.elim c1 (Int32.not_le.mpr c7)), nI_clamp hj], rfl, rfl⟩
    · refine sw_throwW (names := ["java/lang/RuntimeException", "java/lang/Exception"]) rfl dX3_shelfAt_10 dX3_shelfAt_13 dX3_shelfAt_14 dX3_shelfAt_17 dX3_shelfAt_20 (by decide +kernel) (by decide +kernel) (by decide +kernel) w_361 w_49 (SRm 3 rfl) th_Overwalks_339 (by omega) (by omega) ?_
      exact ⟨by rw [if_pos (Or.inr (Int32.not_lt.mp c7))]; rfl, rfl, rfl⟩
theorem m_walkAt {h : AH} {σ : CS} {d bc bs n : Nat} {x : Int32} (hR : RC h σ) (h1 : 1 ≤ bc) (h2 : 6 ≤ bs) : SM SR0 MX3_walkAt d bc bs [.ref 100, .int x] h n (Det (if x < 0 ∨ 6 ≤ x then xI else .inl (some (.ref (125 + x.toNatClampNeg)))) h n) := by
  refine sm_of pn_Overwalks rfl (Nat.le_of_ble_eq_true rfl) ?_
  refine sw_iload_n (pc' := 1) rfl dX3_walkAt_0 rfl ?_
  refine sw_if_lt (pc' := 4) (tgt := 10) rfl dX3_walkAt_1 (by decide +kernel) (fun c1 => ?_) (fun c1 => ?_)
  · refine sw_throwW (names := ["java/lang/RuntimeException", "java/lang/Exception"]) rfl dX3_walkAt_10 dX3_walkAt_13 dX3_walkAt_14 dX3_walkAt_17 dX3_walkAt_20 (by decide +kernel) (by decide +kernel) (by decide +kernel) w_361 w_49 (SRm 1 rfl) th_Overwalks_339 (by omega) (by omega) ?_
    exact ⟨by rw [if_pos (Or.inl c1)]; rfl, rfl, rfl⟩
  · refine sw_iload_n (pc' := 5) rfl dX3_walkAt_4 rfl ?_
    refine sw_bipush (pc' := 7) (v := 6) rfl dX3_walkAt_5 (by decide +kernel) ?_
    refine sw_icmp_lt (pc' := 10) (tgt := 21) rfl dX3_walkAt_7 (by decide +kernel) (fun c7 => ?_) (fun c7 => ?_)
    · obtain ⟨j, hj, rfl⟩ := nI_of c1
      obtain ⟨g, ga, gb⟩ := hR.2.2.1
      have hj2 : j < 6 := (nI_ltI (b := 6) hj (by decide +kernel)).mp c7
      refine sw_aload_n (pc' := 22) rfl dX3_walkAt_21 rfl ?_
      refine sw_getf (ci := 4) (k := 1) (pc' := 25) rfl dX3_walkAt_22 (by decide +kernel) w_151 hR.1 rfl ?_
      refine sw_iload_n (pc' := 26) rfl dX3_walkAt_25 rfl ?_
      refine sw_aald (pc' := 27) rfl dX3_walkAt_26 ga (by decide +kernel) (by decide +kernel) rfl hj2 (by decide +kernel) (gb j hj2) ?_
      refine sw_ret (v := some _) ⟨dX3_walkAt_27, _, rfl, Or.inl ⟨_, rfl⟩⟩ ?_
      exact ⟨by rw [if_neg (fun q => q.elim c1 (Int32.not_le.mpr c7)), nI_clamp hj], rfl, rfl⟩
    · refine sw_throwW (names := ["java/lang/RuntimeException", "java/lang/Exception"]) rfl dX3_walkAt_10 dX3_walkAt_13 dX3_walkAt_14 dX3_walkAt_17 dX3_walkAt_20 (by decide +kernel) (by decide +kernel) (by decide +kernel) w_361 w_49 (SRm 1 rfl) th_Overwalks_339 (by omega) (by omega) ?_
      exact ⟨by rw [if_pos (Or.inr (Int32.not_lt.mp c7))]; rfl, rfl, rfl⟩
theorem m_refuse {h : AH} {σ : CS} {d bc bs n : Nat} (hR : RC h σ) : SM SR0 MX3_refuse d bc bs [.ref 100] h n (CP h n (rI (-9), rfU σ)) := by
  refine sm_of pn_Overwalks rfl (Nat.le_of_ble_eq_true rfl) ?_
  refine sw_aload_n (pc' := 1) rfl dX3_refuse_0 rfl ?_
  refine sw_dup (pc' := 2) rfl dX3_refuse_1 rfl ?_
  refine sw_getf (ci := 4) (k := 5) (pc' := 5) rfl dX3_refuse_2 (by decide +kernel) w_155 hR.1 rfl ?_
  refine sw_iconst (pc' := 6) (v := 1) rfl dX3_refuse_5 (by decide +kernel) ?_
  refine sw_iadd (pc' := 7) rfl dX3_refuse_6 ?_
  refine sw_putf (ci := 4) (k := 5) (pc' := 10) rfl dX3_refuse_7 (by decide +kernel) (by decide +kernel) w_155 rfl hR.1 (Nat.le_refl _) (Nat.le_of_ble_eq_true rfl) rfl rfl ?_
  refine sw_nm (fun g1 eg1 => ?_)
  have zk2 := (congrFun eg1 _).trans (up_s (h := h) (i := 100))
  refine sw_bipush (pc' := 12) (v := (-9)) rfl dX3_refuse_10 (by decide +kernel) ?_
  refine sw_ret (v := some _) ⟨dX3_refuse_12, _, rfl, rfl⟩ ?_
  have hF : FrW h g1 100 := (fun i h1 => (congrFun eg1 i).trans ((up_n h1).trans (rfl)))
  exact ⟨rfl, rfl, hR.oU zk2 hF, hF.c (by decide +kernel) (by decide +kernel)⟩
theorem m_knock {h : AH} {σ : CS} {d bc bs n : Nat} (hR : RC h σ) : SM SR0 MX3_knock d bc bs [.ref 100] h n (CP h n (rI (σ.2.2.2.2.2.2 + 1), knU σ)) := by
  refine sm_of pn_Overwalks rfl (Nat.le_of_ble_eq_true rfl) ?_
  refine sw_aload_n (pc' := 1) rfl dX3_knock_0 rfl ?_
  refine sw_dup (pc' := 2) rfl dX3_knock_1 rfl ?_
  refine sw_getf (ci := 4) (k := 6) (pc' := 5) rfl dX3_knock_2 (by decide +kernel) w_156 hR.1 rfl ?_
  refine sw_iconst (pc' := 6) (v := 1) rfl dX3_knock_5 (by decide +kernel) ?_
  refine sw_iadd (pc' := 7) rfl dX3_knock_6 ?_
  refine sw_putf (ci := 4) (k := 6) (pc' := 10) rfl dX3_knock_7 (by decide +kernel) (by decide +kernel) w_156 rfl hR.1 (Nat.le_refl _) (Nat.le_of_ble_eq_true rfl) rfl rfl ?_
  refine sw_nm (fun g1 eg1 => ?_)
  have zk2 := (congrFun eg1 _).trans (up_s (h := h) (i := 100))
  refine sw_aload_n (pc' := 11) rfl dX3_knock_10 rfl ?_
  refine sw_getf (ci := 4) (k := 6) (pc' := 14) rfl dX3_knock_11 (by decide +kernel) w_156 zk2 rfl ?_
  refine sw_ret (v := some _) ⟨dX3_knock_14, _, rfl, rfl⟩ ?_
  have hF : FrW h g1 100 := (fun i h1 => (congrFun eg1 i).trans ((up_n h1).trans (rfl)))
  exact ⟨rfl, rfl, hR.oU zk2 hF, hF.c (by decide +kernel) (by decide +kernel)⟩
