/-! what the calls do -/
theorem idxN (N : Nat) (hN : N < 2 ^ 31) (x : Int32) : (x < 0 ∨ nI N ≤ x) ∨ ∃ k : Nat, k < N ∧ x = nI k := by
  by_cases q : x < 0
  · exact Or.inl (Or.inl q)
  · obtain ⟨j, hj, rfl⟩ := nI_of q
    by_cases g : nI N ≤ nI j
    · exact Or.inl (Or.inr g)
    · exact Or.inr ⟨j, (nI_ltI hj hN).mp (Int32.not_le.mp g), rfl⟩
theorem nok {N k : Nat} (hN : N < 2 ^ 31) (hk : k < N) : ¬ (nI k < 0 ∨ nI N ≤ nI k) := fun q => q.elim (nI_pos (by omega)) (nI_ge hk hN)
def onSh (a : Int32) (σ : CS) (g : Nat → ARes × CS) : ARes × CS := if a < 0 ∨ 11 ≤ a then (xI, σ) else g a.toNatClampNeg
def onWk (a : Int32) (σ : CS) (g : Nat → ARes × CS) : ARes × CS := if a < 0 ∨ 6 ≤ a then (xI, σ) else g a.toNatClampNeg
def onRw (a : Int32) (σ : CS) (g : Nat → ARes × CS) : ARes × CS := onSh a σ (fun k => if kP (kdO k) = false then (xI, σ) else g k)
theorem onSh_x {a : Int32} {σ : CS} {g : Nat → ARes × CS} (q : a < 0 ∨ nI 11 ≤ a) : onSh a σ g = (xI, σ) := if_pos q
theorem onWk_x {a : Int32} {σ : CS} {g : Nat → ARes × CS} (q : a < 0 ∨ nI 6 ≤ a) : onWk a σ g = (xI, σ) := if_pos q
theorem onSh_k {k : Nat} {σ : CS} {g : Nat → ARes × CS} (hk : k < 11) : onSh (nI k) σ g = g k := (if_neg (nok (N := 11) (by decide +kernel) hk)).trans (by rw [nI_clamp (by omega)])
theorem onWk_k {k : Nat} {σ : CS} {g : Nat → ARes × CS} (hk : k < 6) : onWk (nI k) σ g = g k := (if_neg (nok (N := 6) (by decide +kernel) hk)).trans (by rw [nI_clamp (by omega)])
theorem onRw_x {a : Int32} {σ : CS} {g : Nat → ARes × CS} (q : a < 0 ∨ nI 11 ≤ a) : onRw a σ g = (xI, σ) := if_pos q
theorem onRw_y {k : Nat} {σ : CS} {g : Nat → ARes × CS} (hk : k < 11) (q : kP (kdO k) = false) : onRw (nI k) σ g = (xI, σ) := (onSh_k hk).trans (if_pos q)
theorem onRw_k {k : Nat} {σ : CS} {g : Nat → ARes × CS} (hk : k < 11) (q : ¬ kP (kdO k) = false) : onRw (nI k) σ g = g k := (onSh_k hk).trans (if_neg q)
def tkB (k : Nat) (x : Int32) : Bool := decide (x ≠ 100) || kN (kdO k)
/-- PUT, with room -/
def ldU (σ : CS) (k : Nat) (x : Int32) : CS := if ldY (σ.1 k) (σ.2.1 k) (kdO k) x then sU σ k (laN (σ.1 k) (ldP (σ.1 k) (σ.2.1 k) (kdO k) x) x (σ.2.1 k)) (σ.2.1 k + 1) (σ.2.2.1 k + 1) (σ.2.2.2.1 k) else σ
def wO (σ : CS) (k : Nat) : Nat := (σ.2.2.2.2.1 k).2.1
def wSt (σ : CS) (k : Nat) : Bool := decide (σ.2.2.1 (wO σ k) ≠ (σ.2.2.2.2.1 k).2.2.2.2.2.1)
def wHM (σ : CS) (k : Nat) : Bool := hmB (σ.2.1 (wO σ k)) (σ.2.2.1 (wO σ k)) (σ.2.2.2.2.1 k).2.2.2.1 (σ.2.2.2.2.1 k).2.2.2.2.1 (σ.2.2.2.2.1 k).2.2.2.2.2.1
def wAh (σ : CS) (k : Nat) : Int32 := (σ.2.2.2.2.1 k).2.2.2.1 - (σ.2.2.2.2.1 k).2.2.2.2.1
/-- the WALK gives m things -/
def gvU (σ : CS) (k m : Nat) : CS := wU σ k ((σ.2.2.2.2.1 k).1, wO σ k, (σ.2.2.2.2.1 k).2.2.1, (σ.2.2.2.2.1 k).2.2.2.1 + nI m, (σ.2.2.2.2.1 k).2.2.2.2.1, (σ.2.2.2.2.1 k).2.2.2.2.2.1, if m = 0 then (σ.2.2.2.2.1 k).2.2.2.2.2.2.1 else σ.2.2.2.1 (wO σ k), if m = 0 then (σ.2.2.2.2.1 k).2.2.2.2.2.2.2 else true)
def wGu (σ : CS) (k m : Nat) : Nat := guN (σ.2.1 (wO σ k)) (σ.2.2.1 (wO σ k)) (σ.2.2.2.2.1 k).2.2.2.2.1 (σ.2.2.2.2.1 k).2.2.2.2.2.1 (σ.2.2.2.2.1 k).2.2.2.1 m
def opSize (σ : CS) (a : Int32) : ARes × CS := onSh a σ (fun k => (rI (nI (σ.2.1 k)), σ))
def opIsEmpty (σ : CS) (a : Int32) : ARes × CS := onSh a σ (fun k => (rI (bI (decide (σ.2.1 k = 0))), σ))
def opHas (σ : CS) (a x : Int32) : ARes × CS := onSh a σ (fun k => if x < 0 ∨ 100 < x then (xA, σ) else if tkB k x = false then (rI (-9), rfU σ) else (rI (bI (fpN (σ.1 k) x 0 (σ.2.1 k)).isSome), σ))
def opOften (σ : CS) (a x : Int32) : ARes × CS := onSh a σ (fun k => if x < 0 ∨ 100 < x then (xA, σ) else (rI (nI (coN (σ.1 k) x 0 (σ.2.1 k))), σ))
def opFirst (σ : CS) (a y : Int32) : ARes × CS := onSh a σ (fun k => if σ.2.1 k = 0 then (rI (-9), rfU σ) else (rI (taI (σ.1 k) (σ.2.1 k) (if y = 0 then 0 else nI (σ.2.1 k) - 1)), σ))
def opPut (σ : CS) (a x : Int32) : ARes × CS := onSh a σ (fun k => if x < 0 ∨ 100 < x then (xA, σ) else if 12 < nI (σ.2.1 k) + 1 then (xS, σ) else if kdO k = 5 ∨ tkB k x = false then (rI (-9), rfU σ) else (rI (bI (ldY (σ.1 k) (σ.2.1 k) (kdO k) x)), ldU σ k x))
def opNext (σ : CS) (a : Int32) : ARes × CS := onWk a σ (fun k => if (σ.2.2.2.2.1 k).1 = false then (xS, σ) else if wHM σ k = false then (rI (-9), rfU σ) else (rI (taI (σ.1 (wO σ k)) (σ.2.1 (wO σ k)) (wAh σ k)), gvU σ k 1))
def opMore (σ : CS) (a : Int32) : ARes × CS := onWk a σ (fun k => if (σ.2.2.2.2.1 k).1 = false then (xS, σ) else if wSt σ k = true then (rI (-9), rfU σ) else (rI (bI (wHM σ k)), σ))
def opSkip (σ : CS) (a x : Int32) : ARes × CS := onWk a σ (fun k => if x < 0 ∨ 12 < x then (xA, σ) else if (σ.2.2.2.2.1 k).1 = false then (xS, σ) else if wSt σ k = true then (rI (-9), rfU σ) else (rI (nI (wGu σ k x.toNatClampNeg)), gvU σ k (wGu σ k x.toNatClampNeg)))
theorem m_requireThing_x {h : AH} {d bc bs n : Nat} {x : Int32}  (h1 : 1 ≤ bc) (h2 : 6 ≤ bs) (q : x < 0 ∨ 100 ≤ x) : SM SR0 MX3_requireThing d bc bs [.int x] h n (Det xA h n) := by
  have k := m_requireThing (h := h) (d := d) (n := n) (x := x) h1 h2
  rw [if_pos q] at k
  exact k
theorem m_requireThing_k {h : AH} {d bc bs n : Nat} {x : Int32}  (h1 : 1 ≤ bc) (h2 : 6 ≤ bs) (q : ¬ (x < 0 ∨ 100 ≤ x)) : SM SR0 MX3_requireThing d bc bs [.int x] h n (Det ivN h n) := by
  have k := m_requireThing (h := h) (d := d) (n := n) (x := x) h1 h2
  rw [if_neg q] at k
  exact k
theorem m_requireThingOrNothing_x {h : AH} {d bc bs n : Nat} {x : Int32}  (h1 : 1 ≤ bc) (h2 : 6 ≤ bs) (q : x < 0 ∨ 100 < x) : SM SR0 MX3_requireThingOrNothing d bc bs [.int x] h n (Det xA h n) := by
  have k := m_requireThingOrNothing (h := h) (d := d) (n := n) (x := x) h1 h2
  rw [if_pos q] at k
  exact k
theorem m_requireThingOrNothing_k {h : AH} {d bc bs n : Nat} {x : Int32}  (h1 : 1 ≤ bc) (h2 : 6 ≤ bs) (q : ¬ (x < 0 ∨ 100 < x)) : SM SR0 MX3_requireThingOrNothing d bc bs [.int x] h n (Det ivN h n) := by
  have k := m_requireThingOrNothing (h := h) (d := d) (n := n) (x := x) h1 h2
  rw [if_neg q] at k
  exact k
theorem m_requireUpToRoom_x {h : AH} {d bc bs n : Nat} {x : Int32}  (h1 : 1 ≤ bc) (h2 : 6 ≤ bs) (q : x < 0 ∨ 12 < x) : SM SR0 MX3_requireUpToRoom d bc bs [.int x] h n (Det xA h n) := by
  have k := m_requireUpToRoom (h := h) (d := d) (n := n) (x := x) h1 h2
  rw [if_pos q] at k
  exact k
theorem m_requireUpToRoom_k {h : AH} {d bc bs n : Nat} {x : Int32}  (h1 : 1 ≤ bc) (h2 : 6 ≤ bs) (q : ¬ (x < 0 ∨ 12 < x)) : SM SR0 MX3_requireUpToRoom d bc bs [.int x] h n (Det ivN h n) := by
  have k := m_requireUpToRoom (h := h) (d := d) (n := n) (x := x) h1 h2
  rw [if_neg q] at k
  exact k
theorem m_requireThingNothingOrNone_x {h : AH} {d bc bs n : Nat} {x : Int32}  (h1 : 1 ≤ bc) (h2 : 6 ≤ bs) (q : x < -1 ∨ 100 < x) : SM SR0 MX3_requireThingNothingOrNone d bc bs [.int x] h n (Det xA h n) := by
  have k := m_requireThingNothingOrNone (h := h) (d := d) (n := n) (x := x) h1 h2
  rw [if_pos q] at k
  exact k
theorem m_requireThingNothingOrNone_k {h : AH} {d bc bs n : Nat} {x : Int32}  (h1 : 1 ≤ bc) (h2 : 6 ≤ bs) (q : ¬ (x < -1 ∨ 100 < x)) : SM SR0 MX3_requireThingNothingOrNone d bc bs [.int x] h n (Det ivN h n) := by
  have k := m_requireThingNothingOrNone (h := h) (d := d) (n := n) (x := x) h1 h2
  rw [if_neg q] at k
  exact k
theorem m_requirePlace_x {h : AH} {d bc bs n : Nat} {x y : Int32}  (h1 : 1 ≤ bc) (h2 : 6 ≤ bs) (q : x < 0 ∨ y ≤ x) : SM SR0 MX3_requirePlace d bc bs [.int x, .int y] h n (Det xI h n) := by
  have k := m_requirePlace (h := h) (d := d) (n := n) (x := x) (y := y) h1 h2
  rw [if_pos q] at k
  exact k
theorem m_requirePlace_k {h : AH} {d bc bs n : Nat} {x y : Int32}  (h1 : 1 ≤ bc) (h2 : 6 ≤ bs) (q : ¬ (x < 0 ∨ y ≤ x)) : SM SR0 MX3_requirePlace d bc bs [.int x, .int y] h n (Det ivN h n) := by
  have k := m_requirePlace (h := h) (d := d) (n := n) (x := x) (y := y) h1 h2
  rw [if_neg q] at k
  exact k
theorem m_requireRoom_x {h : AH} {b kd c d bc bs n : Nat} {f : Nat → Int32} {s t x : Int32} (hS : ShF h b kd f c s t) (h1 : 1 ≤ bc) (h2 : 6 ≤ bs) (q : 12 < nI c + x) : SM SR0 MX3_requireRoom d bc bs [.ref b, .int x] h n (Det xS h n) := by
  have k := m_requireRoom (d := d) (n := n) (x := x) hS h1 h2
  rw [if_pos q] at k
  exact k
theorem m_requireRoom_k {h : AH} {b kd c d bc bs n : Nat} {f : Nat → Int32} {s t x : Int32} (hS : ShF h b kd f c s t) (h1 : 1 ≤ bc) (h2 : 6 ≤ bs) (q : ¬ (12 < nI c + x)) : SM SR0 MX3_requireRoom d bc bs [.ref b, .int x] h n (Det ivN h n) := by
  have k := m_requireRoom (d := d) (n := n) (x := x) hS h1 h2
  rw [if_neg q] at k
  exact k
theorem m_requireMade_x {h : AH} {w b d bc bs n : Nat} {mk la : Bool} {sh hw gi tk ss ts : Int32} (hW : WkF h w mk b sh hw gi tk ss ts la) (h1 : 1 ≤ bc) (h2 : 6 ≤ bs) (q : mk = false) : SM SR0 MX3_requireMade d bc bs [.ref w] h n (Det xS h n) := by
  have k := m_requireMade (d := d) (n := n) hW h1 h2
  rw [if_pos q] at k
  exact k
theorem m_requireMade_k {h : AH} {w b d bc bs n : Nat} {mk la : Bool} {sh hw gi tk ss ts : Int32} (hW : WkF h w mk b sh hw gi tk ss ts la) (h1 : 1 ≤ bc) (h2 : 6 ≤ bs) (q : ¬ (mk = false)) : SM SR0 MX3_requireMade d bc bs [.ref w] h n (Det ivN h n) := by
  have k := m_requireMade (d := d) (n := n) hW h1 h2
  rw [if_neg q] at k
  exact k
theorem m_shelfAt_x {h : AH} {σ : CS} {d bc bs n : Nat} {x : Int32} (hR : RC h σ) (h1 : 1 ≤ bc) (h2 : 6 ≤ bs) (q : x < 0 ∨ nI 11 ≤ x) : SM SR0 MX3_shelfAt d bc bs [.ref 100, .int x] h n (Det xI h n) := by
  have k := m_shelfAt (d := d) (n := n) (x := x) hR h1 h2
  rw [if_pos (show x < 0 ∨ 11 ≤ x from q)] at k
  exact k
theorem m_shelfAt_k {h : AH} {σ : CS} {d bc bs n : Nat} {k : Nat} (hR : RC h σ) (h1 : 1 ≤ bc) (h2 : 6 ≤ bs) (hk : k < 11) : SM SR0 MX3_shelfAt d bc bs [.ref 100, .int (nI k)] h n (Det (.inl (some (.ref (102 + 2 * k)))) h n) := by
  have k := m_shelfAt (d := d) (n := n) (x := nI k) hR h1 h2
  rw [if_neg (show ¬ (nI _ < 0 ∨ 11 ≤ nI _) from nok (N := 11) (by decide +kernel) hk), nI_clamp (by omega)] at k
  exact k
theorem m_walkAt_x {h : AH} {σ : CS} {d bc bs n : Nat} {x : Int32} (hR : RC h σ) (h1 : 1 ≤ bc) (h2 : 6 ≤ bs) (q : x < 0 ∨ nI 6 ≤ x) : SM SR0 MX3_walkAt d bc bs [.ref 100, .int x] h n (Det xI h n) := by
  have k := m_walkAt (d := d) (n := n) (x := x) hR h1 h2
  rw [if_pos (show x < 0 ∨ 6 ≤ x from q)] at k
  exact k
theorem m_walkAt_k {h : AH} {σ : CS} {d bc bs n : Nat} {k : Nat} (hR : RC h σ) (h1 : 1 ≤ bc) (h2 : 6 ≤ bs) (hk : k < 6) : SM SR0 MX3_walkAt d bc bs [.ref 100, .int (nI k)] h n (Det (.inl (some (.ref (125 + k)))) h n) := by
  have k := m_walkAt (d := d) (n := n) (x := nI k) hR h1 h2
  rw [if_neg (show ¬ (nI _ < 0 ∨ 6 ≤ nI _) from nok (N := 6) (by decide +kernel) hk), nI_clamp (by omega)] at k
  exact k
theorem m_size {h : AH} {σ : CS} {d bc bs n : Nat} {a : Int32} (hR : RC h σ) (hd : 6 ≤ d) (hb1 : 20 ≤ bc) (hb2 : 200 ≤ bs) : SM SR0 MX3_size d bc bs [.ref 100, .int a] h n (CP h n (opSize σ a)) := by
  refine sm_of pn_Overwalks rfl (Nat.le_of_ble_eq_true rfl) ?_
  refine sw_aload_n (pc' := 1) rfl dX3_size_0 rfl ?_
  refine sw_iload_n (pc' := 2) rfl dX3_size_1 rfl ?_
  rcases idxN 11 (by decide +kernel) a with q2 | ⟨k2, hk2, q2⟩
  · refine sw_V (M' := MX3_shelfAt) (d' := d - 1) (bc' := 1) (bs' := 6) (ci := 4) (as := [_]) dX3_size_2 w_402 ok_X3_shelfAt (m_shelfAt_x hR (Nat.le_refl _) (Nat.le_refl _) q2) hR.1 rfl (by omega) (Nat.le_of_ble_eq_true rfl) (by omega) (by omega) (dx_x (swx_out rfl ?_)) (fun v h' n' _ z => dx_k z)
    rw [opSize, onSh_x q2]
    exact ⟨rfl, rfl, hR, FrC.rf⟩
  subst q2
  refine sw_V (M' := MX3_shelfAt) (d' := d - 1) (bc' := 1) (bs' := 6) (ci := 4) (as := [_]) dX3_size_2 w_402 ok_X3_shelfAt (m_shelfAt_k hR (Nat.le_refl _) (Nat.le_refl _) hk2) hR.1 rfl (by omega) (Nat.le_of_ble_eq_true rfl) (by omega) (by omega) (fun E h' n' _ z => det_x z) (det_k ?_)
  refine sw_getf (ci := 2) (k := 2) (pc' := 8) rfl dX3_size_5 (by decide +kernel) w_84 (hR.sh hk2).1 rfl ?_
  refine sw_ret (v := some _) ⟨dX3_size_8, _, rfl, rfl⟩ ?_
  rw [opSize, onSh_k hk2]
  exact ⟨rfl, rfl, hR, FrC.rf⟩
theorem m_isEmpty {h : AH} {σ : CS} {d bc bs n : Nat} {a : Int32} (hR : RC h σ) (hd : 6 ≤ d) (hb1 : 20 ≤ bc) (hb2 : 200 ≤ bs) : SM SR0 MX3_isEmpty d bc bs [.ref 100, .int a] h n (CP h n (opIsEmpty σ a)) := by
  refine sm_of pn_Overwalks rfl (Nat.le_of_ble_eq_true rfl) ?_
  refine sw_aload_n (pc' := 1) rfl dX3_isEmpty_0 rfl ?_
  refine sw_iload_n (pc' := 2) rfl dX3_isEmpty_1 rfl ?_
  rcases idxN 11 (by decide +kernel) a with q2 | ⟨k2, hk2, q2⟩
  · refine sw_V (M' := MX3_shelfAt) (d' := d - 1) (bc' := 1) (bs' := 6) (ci := 4) (as := [_]) dX3_isEmpty_2 w_402 ok_X3_shelfAt (m_shelfAt_x hR (Nat.le_refl _) (Nat.le_refl _) q2) hR.1 rfl (by omega) (Nat.le_of_ble_eq_true rfl) (by omega) (by omega) (dx_x (swx_out rfl ?_)) (fun v h' n' _ z => dx_k z)
    rw [opIsEmpty, onSh_x q2]
    exact ⟨rfl, rfl, hR, FrC.rf⟩
  subst q2
  refine sw_V (M' := MX3_shelfAt) (d' := d - 1) (bc' := 1) (bs' := 6) (ci := 4) (as := [_]) dX3_isEmpty_2 w_402 ok_X3_shelfAt (m_shelfAt_k hR (Nat.le_refl _) (Nat.le_refl _) hk2) hR.1 rfl (by omega) (Nat.le_of_ble_eq_true rfl) (by omega) (by omega) (fun E h' n' _ z => det_x z) (det_k ?_)
  refine sw_getf (ci := 2) (k := 2) (pc' := 8) rfl dX3_isEmpty_5 (by decide +kernel) w_84 (hR.sh hk2).1 rfl ?_
  refine sw_if_ne (pc' := 11) (tgt := 15) rfl dX3_isEmpty_8 (by decide +kernel) (fun c8 => ?_) (fun c8 => ?_)
  · refine sw_iconst (pc' := 16) (v := 0) rfl dX3_isEmpty_15 (by decide +kernel) ?_
    refine sw_ret (v := some _) ⟨dX3_isEmpty_16, _, rfl, rfl⟩ ?_
    rw [opIsEmpty, onSh_k hk2, decide_eq_false (fun e => c8 (by rw [e]; rfl))]
    exact ⟨rfl, rfl, hR, FrC.rf⟩
  · refine sw_iconst (pc' := 12) (v := 1) rfl dX3_isEmpty_11 (by decide +kernel) ?_
    refine sw_goto (tgt := 16) dX3_isEmpty_12 (by decide +kernel) ?_
    refine sw_ret (v := some _) ⟨dX3_isEmpty_16, _, rfl, rfl⟩ ?_
    rw [opIsEmpty, onSh_k hk2, decide_eq_true (Nat.eq_zero_of_not_pos (fun g => nI_ne0 g (by have := (hR.sh hk2).2.2.1; omega) c8))]
    exact ⟨rfl, rfl, hR, FrC.rf⟩
theorem m_has {h : AH} {σ : CS} {d bc bs n : Nat} {a x : Int32} (hR : RC h σ) (hd : 6 ≤ d) (hb1 : 20 ≤ bc) (hb2 : 200 ≤ bs) : SM SR0 MX3_has d bc bs [.ref 100, .int a, .int x] h n (CP h n (opHas σ a x)) := by
  refine sm_of pn_Overwalks rfl (Nat.le_of_ble_eq_true rfl) ?_
  refine sw_aload_n (pc' := 1) rfl dX3_has_0 rfl ?_
  refine sw_iload_n (pc' := 2) rfl dX3_has_1 rfl ?_
  rcases idxN 11 (by decide +kernel) a with q2 | ⟨k2, hk2, q2⟩
  · refine sw_V (M' := MX3_shelfAt) (d' := d - 1) (bc' := 1) (bs' := 6) (ci := 4) (as := [_]) dX3_has_2 w_402 ok_X3_shelfAt (m_shelfAt_x hR (Nat.le_refl _) (Nat.le_refl _) q2) hR.1 rfl (by omega) (Nat.le_of_ble_eq_true rfl) (by omega) (by omega) (dx_x (swx_out rfl ?_)) (fun v h' n' _ z => dx_k z)
    rw [opHas, onSh_x q2]
    exact ⟨rfl, rfl, hR, FrC.rf⟩
  subst q2
  refine sw_V (M' := MX3_shelfAt) (d' := d - 1) (bc' := 1) (bs' := 6) (ci := 4) (as := [_]) dX3_has_2 w_402 ok_X3_shelfAt (m_shelfAt_k hR (Nat.le_refl _) (Nat.le_refl _) hk2) hR.1 rfl (by omega) (Nat.le_of_ble_eq_true rfl) (by omega) (by omega) (fun E h' n' _ z => det_x z) (det_k ?_)
  refine sw_astore_n (pc' := 6) (lv' := [(3, _), (0, _), (1, _), (2, _)]) rfl dX3_has_5 (by decide +kernel) rfl ?_
  refine sw_iload_n (pc' := 7) rfl dX3_has_6 rfl ?_
  rcases Classical.em (x < 0 ∨ 100 < x) with q7 | q7
  · refine sw_S (M' := MX3_requireThingOrNothing) (d' := d - 1) (bc' := 1) (bs' := 6) (as := [_]) dX3_has_7 w_407 ok_X3_requireThingOrNothing (m_requireThingOrNothing_x (Nat.le_refl _) (Nat.le_refl _) q7) (by omega) (Nat.le_of_ble_eq_true rfl) (by omega) (by omega) (dx_x (swx_out rfl ?_)) (fun v h' n' _ z => dx_k z)
    rw [opHas, onSh_k hk2, if_pos q7]
    exact ⟨rfl, rfl, hR, FrC.rf⟩
  refine sw_S (M' := MX3_requireThingOrNothing) (d' := d - 1) (bc' := 1) (bs' := 6) (as := [_]) dX3_has_7 w_407 ok_X3_requireThingOrNothing (m_requireThingOrNothing_k (Nat.le_refl _) (Nat.le_refl _) q7) (by omega) (Nat.le_of_ble_eq_true rfl) (by omega) (by omega) (fun E h' n' _ z => det_x z) (det_k ?_)
  refine sw_aload_n (pc' := 11) rfl dX3_has_10 rfl ?_
  refine sw_iload_n (pc' := 12) rfl dX3_has_11 rfl ?_
  refine sw_V (M' := MX1_takesIn) (d' := d - 1) (bc' := 0) (bs' := 0) (ci := 2) (as := [_]) dX3_has_12 w_435 ok_X1_takesIn (m_takesIn (hR.sh hk2) (hR.kd kdO_r)) (hR.sh hk2).1 rfl (by omega) (Nat.le_of_ble_eq_true rfl) (by omega) (by omega) (fun E h' n' _ z => det_x z) (det_k ?_)
  refine sw_if_ne (pc' := 18) (tgt := 23) rfl dX3_has_15 (by decide +kernel) (fun c15 => ?_) (fun c15 => ?_)
  · refine sw_aload_n (pc' := 24) rfl dX3_has_23 rfl ?_
    refine sw_iload_n (pc' := 25) rfl dX3_has_24 rfl ?_
    refine sw_V (M' := MX1_holds) (d' := d - 1) (bc' := 0) (bs' := 0) (ci := 2) (as := [_]) dX3_has_25 w_530 ok_X1_holds (m_holds (hR.sh hk2) (by omega)) (hR.sh hk2).1 rfl (by omega) (Nat.le_of_ble_eq_true rfl) (by omega) (by omega) (fun E h' n' _ z => det_x z) (det_k ?_)
    refine sw_S (M' := MX3_oneIf) (d' := d - 1) (bc' := 0) (bs' := 0) (as := [_]) dX3_has_28 w_277 ok_X3_oneIf (m_oneIf) (by omega) (Nat.le_of_ble_eq_true rfl) (by omega) (by omega) (fun E h' n' _ z => det_x z) (det_k ?_)
    refine sw_ret (v := some _) ⟨dX3_has_31, _, rfl, rfl⟩ ?_
    rw [opHas, onSh_k hk2, if_neg q7, if_neg (fun q : tkB k2 x = false => by unfold tkB at q; rw [q] at c15; exact c15 rfl)]
    exact ⟨rfl, rfl, hR, FrC.rf⟩
  · refine sw_aload_n (pc' := 19) rfl dX3_has_18 rfl ?_
    refine sw_V (M' := MX3_refuse) (d' := d - 1) (bc' := 0) (bs' := 0) (ci := 4) (as := []) dX3_has_19 w_439 ok_X3_refuse (m_refuse hR) hR.1 rfl (by omega) (Nat.le_of_ble_eq_true rfl) (by omega) (by omega) (fun E h' n' _ z => cp_x z) (cp_k (fun p19 p19R p19F => ?_))
    refine sw_ret (v := some _) ⟨dX3_has_22, _, rfl, rfl⟩ ?_
    rw [opHas, onSh_k hk2, if_neg q7, if_pos (bI_0 c15 : tkB k2 x = false)]
    exact ⟨rfl, rfl, p19R, p19F⟩
theorem m_often {h : AH} {σ : CS} {d bc bs n : Nat} {a x : Int32} (hR : RC h σ) (hd : 6 ≤ d) (hb1 : 20 ≤ bc) (hb2 : 200 ≤ bs) : SM SR0 MX3_often d bc bs [.ref 100, .int a, .int x] h n (CP h n (opOften σ a x)) := by
  refine sm_of pn_Overwalks rfl (Nat.le_of_ble_eq_true rfl) ?_
  refine sw_aload_n (pc' := 1) rfl dX3_often_0 rfl ?_
  refine sw_iload_n (pc' := 2) rfl dX3_often_1 rfl ?_
  rcases idxN 11 (by decide +kernel) a with q2 | ⟨k2, hk2, q2⟩
  · refine sw_V (M' := MX3_shelfAt) (d' := d - 1) (bc' := 1) (bs' := 6) (ci := 4) (as := [_]) dX3_often_2 w_402 ok_X3_shelfAt (m_shelfAt_x hR (Nat.le_refl _) (Nat.le_refl _) q2) hR.1 rfl (by omega) (Nat.le_of_ble_eq_true rfl) (by omega) (by omega) (dx_x (swx_out rfl ?_)) (fun v h' n' _ z => dx_k z)
    rw [opOften, onSh_x q2]
    exact ⟨rfl, rfl, hR, FrC.rf⟩
  subst q2
  refine sw_V (M' := MX3_shelfAt) (d' := d - 1) (bc' := 1) (bs' := 6) (ci := 4) (as := [_]) dX3_often_2 w_402 ok_X3_shelfAt (m_shelfAt_k hR (Nat.le_refl _) (Nat.le_refl _) hk2) hR.1 rfl (by omega) (Nat.le_of_ble_eq_true rfl) (by omega) (by omega) (fun E h' n' _ z => det_x z) (det_k ?_)
  refine sw_astore_n (pc' := 6) (lv' := [(3, _), (0, _), (1, _), (2, _)]) rfl dX3_often_5 (by decide +kernel) rfl ?_
  refine sw_iload_n (pc' := 7) rfl dX3_often_6 rfl ?_
  rcases Classical.em (x < 0 ∨ 100 < x) with q7 | q7
  · refine sw_S (M' := MX3_requireThingOrNothing) (d' := d - 1) (bc' := 1) (bs' := 6) (as := [_]) dX3_often_7 w_407 ok_X3_requireThingOrNothing (m_requireThingOrNothing_x (Nat.le_refl _) (Nat.le_refl _) q7) (by omega) (Nat.le_of_ble_eq_true rfl) (by omega) (by omega) (dx_x (swx_out rfl ?_)) (fun v h' n' _ z => dx_k z)
    rw [opOften, onSh_k hk2, if_pos q7]
    exact ⟨rfl, rfl, hR, FrC.rf⟩
  refine sw_S (M' := MX3_requireThingOrNothing) (d' := d - 1) (bc' := 1) (bs' := 6) (as := [_]) dX3_often_7 w_407 ok_X3_requireThingOrNothing (m_requireThingOrNothing_k (Nat.le_refl _) (Nat.le_refl _) q7) (by omega) (Nat.le_of_ble_eq_true rfl) (by omega) (by omega) (fun E h' n' _ z => det_x z) (det_k ?_)
  refine sw_aload_n (pc' := 11) rfl dX3_often_10 rfl ?_
  refine sw_iload_n (pc' := 12) rfl dX3_often_11 rfl ?_
  refine sw_V (M' := MX1_countOf) (d' := d - 1) (bc' := 0) (bs' := 0) (ci := 2) (as := [_]) dX3_often_12 w_269 ok_X1_countOf (m_countOf (hR.sh hk2)) (hR.sh hk2).1 rfl (by omega) (Nat.le_of_ble_eq_true rfl) (by omega) (by omega) (fun E h' n' _ z => det_x z) (det_k ?_)
  refine sw_ret (v := some _) ⟨dX3_often_15, _, rfl, rfl⟩ ?_
  rw [opOften, onSh_k hk2, if_neg q7]
  exact ⟨rfl, rfl, hR, FrC.rf⟩
theorem m_first {h : AH} {σ : CS} {d bc bs n : Nat} {a y : Int32} (hR : RC h σ) (hd : 6 ≤ d) (hb1 : 20 ≤ bc) (hb2 : 200 ≤ bs) : SM SR0 MX3_first d bc bs [.ref 100, .int a, .int y] h n (CP h n (opFirst σ a y)) := by
  refine sm_of pn_Overwalks rfl (Nat.le_of_ble_eq_true rfl) ?_
  refine sw_aload_n (pc' := 1) rfl dX3_first_0 rfl ?_
  refine sw_iload_n (pc' := 2) rfl dX3_first_1 rfl ?_
  rcases idxN 11 (by decide +kernel) a with q2 | ⟨k2, hk2, q2⟩
  · refine sw_V (M' := MX3_shelfAt) (d' := d - 1) (bc' := 1) (bs' := 6) (ci := 4) (as := [_]) dX3_first_2 w_402 ok_X3_shelfAt (m_shelfAt_x hR (Nat.le_refl _) (Nat.le_refl _) q2) hR.1 rfl (by omega) (Nat.le_of_ble_eq_true rfl) (by omega) (by omega) (dx_x (swx_out rfl ?_)) (fun v h' n' _ z => dx_k z)
    rw [opFirst, onSh_x q2]
    exact ⟨rfl, rfl, hR, FrC.rf⟩
  subst q2
  refine sw_V (M' := MX3_shelfAt) (d' := d - 1) (bc' := 1) (bs' := 6) (ci := 4) (as := [_]) dX3_first_2 w_402 ok_X3_shelfAt (m_shelfAt_k hR (Nat.le_refl _) (Nat.le_refl _) hk2) hR.1 rfl (by omega) (Nat.le_of_ble_eq_true rfl) (by omega) (by omega) (fun E h' n' _ z => det_x z) (det_k ?_)
  refine sw_astore_n (pc' := 6) (lv' := [(3, _), (0, _), (1, _), (2, _)]) rfl dX3_first_5 (by decide +kernel) rfl ?_
  refine sw_aload_n (pc' := 7) rfl dX3_first_6 rfl ?_
  refine sw_getf (ci := 2) (k := 2) (pc' := 10) rfl dX3_first_7 (by decide +kernel) w_84 (hR.sh hk2).1 rfl ?_
  refine sw_if_ne (pc' := 13) (tgt := 18) rfl dX3_first_10 (by decide +kernel) (fun c10 => ?_) (fun c10 => ?_)
  · refine sw_aload_n (pc' := 19) rfl dX3_first_18 rfl ?_
    refine sw_iload_n (pc' := 20) rfl dX3_first_19 rfl ?_
    refine sw_if_eq (pc' := 23) (tgt := 32) rfl dX3_first_20 (by decide +kernel) (fun c20 => ?_) (fun c20 => ?_)
    · refine sw_iconst (pc' := 33) (v := 0) rfl dX3_first_32 (by decide +kernel) ?_
      refine sw_V (M' := MX1_thingAt) (d' := d - 1) (bc' := 0) (bs' := 0) (ci := 2) (as := [_]) dX3_first_33 w_230 ok_X1_thingAt (m_thingAt (hR.sh hk2)) (hR.sh hk2).1 rfl (by omega) (Nat.le_of_ble_eq_true rfl) (by omega) (by omega) (fun E h' n' _ z => det_x z) (det_k ?_)
      refine sw_ret (v := some _) ⟨dX3_first_36, _, rfl, rfl⟩ ?_
      rw [opFirst, onSh_k hk2, if_neg (fun e => c10 (by rw [e]; rfl)), if_pos c20]
      exact ⟨rfl, rfl, hR, FrC.rf⟩
    · refine sw_aload_n (pc' := 24) rfl dX3_first_23 rfl ?_
      refine sw_getf (ci := 2) (k := 2) (pc' := 27) rfl dX3_first_24 (by decide +kernel) w_84 (hR.sh hk2).1 rfl ?_
      refine sw_iconst (pc' := 28) (v := 1) rfl dX3_first_27 (by decide +kernel) ?_
      refine sw_isub (pc' := 29) rfl dX3_first_28 ?_
      refine sw_goto (tgt := 33) dX3_first_29 (by decide +kernel) ?_
      refine sw_V (M' := MX1_thingAt) (d' := d - 1) (bc' := 0) (bs' := 0) (ci := 2) (as := [_]) dX3_first_33 w_230 ok_X1_thingAt (m_thingAt (hR.sh hk2)) (hR.sh hk2).1 rfl (by omega) (Nat.le_of_ble_eq_true rfl) (by omega) (by omega) (fun E h' n' _ z => det_x z) (det_k ?_)
      refine sw_ret (v := some _) ⟨dX3_first_36, _, rfl, rfl⟩ ?_
      rw [opFirst, onSh_k hk2, if_neg (fun e => c10 (by rw [e]; rfl)), if_neg c20]
      exact ⟨rfl, rfl, hR, FrC.rf⟩
  · refine sw_aload_n (pc' := 14) rfl dX3_first_13 rfl ?_
    refine sw_V (M' := MX3_refuse) (d' := d - 1) (bc' := 0) (bs' := 0) (ci := 4) (as := []) dX3_first_14 w_439 ok_X3_refuse (m_refuse hR) hR.1 rfl (by omega) (Nat.le_of_ble_eq_true rfl) (by omega) (by omega) (fun E h' n' _ z => cp_x z) (cp_k (fun p14 p14R p14F => ?_))
    refine sw_ret (v := some _) ⟨dX3_first_17, _, rfl, rfl⟩ ?_
    rw [opFirst, onSh_k hk2, if_pos (Nat.eq_zero_of_not_pos (fun g => nI_ne0 g (by have := (hR.sh hk2).2.2.1; omega) c10))]
    exact ⟨rfl, rfl, p14R, p14F⟩
theorem m_next {h : AH} {σ : CS} {d bc bs n : Nat} {a : Int32} (hR : RC h σ) (hd : 6 ≤ d) (hb1 : 20 ≤ bc) (hb2 : 200 ≤ bs) : SM SR0 MX3_next d bc bs [.ref 100, .int a] h n (CP h n (opNext σ a)) := by
  refine sm_of pn_Overwalks rfl (Nat.le_of_ble_eq_true rfl) ?_
  refine sw_aload_n (pc' := 1) rfl dX3_next_0 rfl ?_
  refine sw_iload_n (pc' := 2) rfl dX3_next_1 rfl ?_
  rcases idxN 6 (by decide +kernel) a with q2 | ⟨k2, hk2, q2⟩
  · refine sw_V (M' := MX3_walkAt) (d' := d - 1) (bc' := 1) (bs' := 6) (ci := 4) (as := [_]) dX3_next_2 w_357 ok_X3_walkAt (m_walkAt_x hR (Nat.le_refl _) (Nat.le_refl _) q2) hR.1 rfl (by omega) (Nat.le_of_ble_eq_true rfl) (by omega) (by omega) (dx_x (swx_out rfl ?_)) (fun v h' n' _ z => dx_k z)
    rw [opNext, onWk_x q2]
    exact ⟨rfl, rfl, hR, FrC.rf⟩
  subst q2
  refine sw_V (M' := MX3_walkAt) (d' := d - 1) (bc' := 1) (bs' := 6) (ci := 4) (as := [_]) dX3_next_2 w_357 ok_X3_walkAt (m_walkAt_k hR (Nat.le_refl _) (Nat.le_refl _) hk2) hR.1 rfl (by omega) (Nat.le_of_ble_eq_true rfl) (by omega) (by omega) (fun E h' n' _ z => det_x z) (det_k ?_)
  refine sw_astore_n (pc' := 6) (lv' := [(2, _), (0, _), (1, _)]) rfl dX3_next_5 (by decide +kernel) rfl ?_
  refine sw_aload_n (pc' := 7) rfl dX3_next_6 rfl ?_
  rcases Classical.em ((σ.2.2.2.2.1 k2).1 = false) with q7 | q7
  · refine sw_S (M' := MX3_requireMade) (d' := d - 1) (bc' := 1) (bs' := 6) (as := [_]) dX3_next_7 w_640 ok_X3_requireMade (m_requireMade_x (hR.wk hk2).2 (Nat.le_refl _) (Nat.le_refl _) q7) (by omega) (Nat.le_of_ble_eq_true rfl) (by omega) (by omega) (dx_x (swx_out rfl ?_)) (fun v h' n' _ z => dx_k z)
    rw [opNext, onWk_k hk2, if_pos q7]
    exact ⟨rfl, rfl, hR, FrC.rf⟩
  refine sw_S (M' := MX3_requireMade) (d' := d - 1) (bc' := 1) (bs' := 6) (as := [_]) dX3_next_7 w_640 ok_X3_requireMade (m_requireMade_k (hR.wk hk2).2 (Nat.le_refl _) (Nat.le_refl _) q7) (by omega) (Nat.le_of_ble_eq_true rfl) (by omega) (by omega) (fun E h' n' _ z => det_x z) (det_k ?_)
  refine sw_aload_n (pc' := 11) rfl dX3_next_10 rfl ?_
  refine sw_V (M' := MX2_hasMore) (d' := d - 1) (bc' := 0) (bs' := 0) (ci := 3) (as := []) dX3_next_11 w_188 ok_X2_hasMore (m_hasMore (hR.wk hk2).2 (hR.sh (hR.wk hk2).1) (by omega)) (hR.wk hk2).2.1 rfl (by omega) (Nat.le_of_ble_eq_true rfl) (by omega) (by omega) (fun E h' n' _ z => det_x z) (det_k ?_)
  refine sw_if_ne (pc' := 17) (tgt := 22) rfl dX3_next_14 (by decide +kernel) (fun c14 => ?_) (fun c14 => ?_)
  · refine sw_aload_n (pc' := 23) rfl dX3_next_22 rfl ?_
    have ov23 := (hR.wk hk2).1
    refine sw_V (M' := MX2_give) (d' := d - 1) (bc' := 0) (bs' := 0) (ci := 3) (as := []) dX3_next_23 w_200 ok_X2_give (m_give (hR.wk hk2).2 (hR.sh (hR.wk hk2).1) (by omega) (by omega)) (hR.wk hk2).2.1 rfl (by omega) (Nat.le_of_ble_eq_true rfl) (by omega) (by omega) (fun E h' n' _ z => wkp_x z) (wkp_k (fun p23 p23W p23F => ?_))
    refine sw_ret (v := some _) ⟨dX3_next_26, _, rfl, rfl⟩ ?_
    rw [opNext, onWk_k hk2, if_neg q7, if_neg (by rw [show wHM σ k2 = true from bI_1 c14]; decide)]
    exact ⟨rfl, rfl, (hR.wU hk2 ⟨(hR.wk hk2).1, p23W⟩ p23F), (p23F.c (by omega) (by omega))⟩
  · refine sw_aload_n (pc' := 18) rfl dX3_next_17 rfl ?_
    refine sw_V (M' := MX3_refuse) (d' := d - 1) (bc' := 0) (bs' := 0) (ci := 4) (as := []) dX3_next_18 w_439 ok_X3_refuse (m_refuse hR) hR.1 rfl (by omega) (Nat.le_of_ble_eq_true rfl) (by omega) (by omega) (fun E h' n' _ z => cp_x z) (cp_k (fun p18 p18R p18F => ?_))
    refine sw_ret (v := some _) ⟨dX3_next_21, _, rfl, rfl⟩ ?_
    rw [opNext, onWk_k hk2, if_neg q7, if_pos (bI_0 c14 : wHM σ k2 = false)]
    exact ⟨rfl, rfl, p18R, p18F⟩
theorem m_more {h : AH} {σ : CS} {d bc bs n : Nat} {a : Int32} (hR : RC h σ) (hd : 6 ≤ d) (hb1 : 20 ≤ bc) (hb2 : 200 ≤ bs) : SM SR0 MX3_more d bc bs [.ref 100, .int a] h n (CP h n (opMore σ a)) := by
  refine sm_of pn_Overwalks rfl (Nat.le_of_ble_eq_true rfl) ?_
  refine sw_aload_n (pc' := 1) rfl dX3_more_0 rfl ?_
  refine sw_iload_n (pc' := 2) rfl dX3_more_1 rfl ?_
  rcases idxN 6 (by decide +kernel) a with q2 | ⟨k2, hk2, q2⟩
  · refine sw_V (M' := MX3_walkAt) (d' := d - 1) (bc' := 1) (bs' := 6) (ci := 4) (as := [_]) dX3_more_2 w_357 ok_X3_walkAt (m_walkAt_x hR (Nat.le_refl _) (Nat.le_refl _) q2) hR.1 rfl (by omega) (Nat.le_of_ble_eq_true rfl) (by omega) (by omega) (dx_x (swx_out rfl ?_)) (fun v h' n' _ z => dx_k z)
    rw [opMore, onWk_x q2]
    exact ⟨rfl, rfl, hR, FrC.rf⟩
  subst q2
  refine sw_V (M' := MX3_walkAt) (d' := d - 1) (bc' := 1) (bs' := 6) (ci := 4) (as := [_]) dX3_more_2 w_357 ok_X3_walkAt (m_walkAt_k hR (Nat.le_refl _) (Nat.le_refl _) hk2) hR.1 rfl (by omega) (Nat.le_of_ble_eq_true rfl) (by omega) (by omega) (fun E h' n' _ z => det_x z) (det_k ?_)
  refine sw_astore_n (pc' := 6) (lv' := [(2, _), (0, _), (1, _)]) rfl dX3_more_5 (by decide +kernel) rfl ?_
  refine sw_aload_n (pc' := 7) rfl dX3_more_6 rfl ?_
  rcases Classical.em ((σ.2.2.2.2.1 k2).1 = false) with q7 | q7
  · refine sw_S (M' := MX3_requireMade) (d' := d - 1) (bc' := 1) (bs' := 6) (as := [_]) dX3_more_7 w_640 ok_X3_requireMade (m_requireMade_x (hR.wk hk2).2 (Nat.le_refl _) (Nat.le_refl _) q7) (by omega) (Nat.le_of_ble_eq_true rfl) (by omega) (by omega) (dx_x (swx_out rfl ?_)) (fun v h' n' _ z => dx_k z)
    rw [opMore, onWk_k hk2, if_pos q7]
    exact ⟨rfl, rfl, hR, FrC.rf⟩
  refine sw_S (M' := MX3_requireMade) (d' := d - 1) (bc' := 1) (bs' := 6) (as := [_]) dX3_more_7 w_640 ok_X3_requireMade (m_requireMade_k (hR.wk hk2).2 (Nat.le_refl _) (Nat.le_refl _) q7) (by omega) (Nat.le_of_ble_eq_true rfl) (by omega) (by omega) (fun E h' n' _ z => det_x z) (det_k ?_)
  refine sw_aload_n (pc' := 11) rfl dX3_more_10 rfl ?_
  refine sw_V (M' := MX2_isStale) (d' := d - 1) (bc' := 0) (bs' := 0) (ci := 3) (as := []) dX3_more_11 w_284 ok_X2_isStale (m_isStale (hR.wk hk2).2 (hR.sh (hR.wk hk2).1)) (hR.wk hk2).2.1 rfl (by omega) (Nat.le_of_ble_eq_true rfl) (by omega) (by omega) (fun E h' n' _ z => det_x z) (det_k ?_)
  refine sw_if_eq (pc' := 17) (tgt := 22) rfl dX3_more_14 (by decide +kernel) (fun c14 => ?_) (fun c14 => ?_)
  · refine sw_aload_n (pc' := 23) rfl dX3_more_22 rfl ?_
    refine sw_V (M' := MX2_hasMore) (d' := d - 1) (bc' := 0) (bs' := 0) (ci := 3) (as := []) dX3_more_23 w_188 ok_X2_hasMore (m_hasMore (hR.wk hk2).2 (hR.sh (hR.wk hk2).1) (by omega)) (hR.wk hk2).2.1 rfl (by omega) (Nat.le_of_ble_eq_true rfl) (by omega) (by omega) (fun E h' n' _ z => det_x z) (det_k ?_)
    refine sw_S (M' := MX3_oneIf) (d' := d - 1) (bc' := 0) (bs' := 0) (as := [_]) dX3_more_26 w_277 ok_X3_oneIf (m_oneIf) (by omega) (Nat.le_of_ble_eq_true rfl) (by omega) (by omega) (fun E h' n' _ z => det_x z) (det_k ?_)
    refine sw_ret (v := some _) ⟨dX3_more_29, _, rfl, rfl⟩ ?_
    rw [opMore, onWk_k hk2, if_neg q7, if_neg (by rw [show wSt σ k2 = false from bI_0 c14]; decide)]
    exact ⟨rfl, rfl, hR, FrC.rf⟩
  · refine sw_aload_n (pc' := 18) rfl dX3_more_17 rfl ?_
    refine sw_V (M' := MX3_refuse) (d' := d - 1) (bc' := 0) (bs' := 0) (ci := 4) (as := []) dX3_more_18 w_439 ok_X3_refuse (m_refuse hR) hR.1 rfl (by omega) (Nat.le_of_ble_eq_true rfl) (by omega) (by omega) (fun E h' n' _ z => cp_x z) (cp_k (fun p18 p18R p18F => ?_))
    refine sw_ret (v := some _) ⟨dX3_more_21, _, rfl, rfl⟩ ?_
    rw [opMore, onWk_k hk2, if_neg q7, if_pos (bI_1 c14 : wSt σ k2 = true)]
    exact ⟨rfl, rfl, p18R, p18F⟩
