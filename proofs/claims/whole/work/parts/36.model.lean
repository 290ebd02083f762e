/-! the model's picture -/
def shF (σ : CS) (j : Nat) : Int32 := if j < 6 then (if (σ.2.2.2.2.1 j).1 then nI (wO σ j) else -1) else 0
theorem shF_m {σ : CS} {k : Nat} (hk : k < 6) (q : (σ.2.2.2.2.1 k).1 = true) : shF σ k = nI (wO σ k) := by unfold shF; rw [if_pos hk, if_pos q]
theorem shF_n {σ : CS} {k : Nat} (hk : k < 6) (q : (σ.2.2.2.2.1 k).1 = false) : shF σ k = -1 := by unfold shF; rw [if_pos hk, q]; rfl
/-- the model at 135 holds σ; ρ: its rows, τ: its turned; th: thrown -/
def MM (h : AH) (ρ : Nat → Nat → Int32) (τ : Nat → Int32) (σ : CS) (th : Int32) : Prop :=
  h 135 = .inr (6, [.int th, .int σ.2.2.2.2.2.2, .int σ.2.2.2.2.2.1, .ref 136, .ref 148, .ref 149, .ref 150, .ref 151, .ref 152, .ref 153, .ref 154, .ref 155, .ref 156, .ref 157]) ∧
  (∃ g, h 136 = .inl (5, 11, .inr (.inr (.inr (.inr g)))) ∧ ∀ k, k < 11 → g k = some (137 + k)) ∧
  (∀ k, k < 11 → h (137 + k) = .inl (0, 12, .inl (ρ k))) ∧
  h 148 = .inl (0, 11, .inl (fun j => nI (σ.2.1 j))) ∧ h 149 = .inl (0, 11, .inl σ.2.2.1) ∧ h 150 = .inl (0, 6, .inl (shF σ)) ∧
  h 151 = .inl (0, 6, .inl (fun j => (σ.2.2.2.2.1 j).2.2.1)) ∧ h 152 = .inl (0, 6, .inl (fun j => (σ.2.2.2.2.1 j).2.2.2.1)) ∧
  h 153 = .inl (0, 6, .inl (fun j => (σ.2.2.2.2.1 j).2.2.2.2.2.1)) ∧ h 154 = .inl (0, 6, .inl (wAh σ)) ∧
  h 155 = .inl (1, 6, .inl (fun j => bI (σ.2.2.2.2.1 j).2.2.2.2.2.2.2)) ∧ h 156 = .inl (0, 11, .inl σ.2.2.2.1) ∧ h 157 = .inl (0, 6, .inl τ)
/-- its rows say what the class's do -/
def AG (ρ : Nat → Nat → Int32) (τ : Nat → Int32) (σ : CS) : Prop :=
  (∀ k, k < 11 → ∀ j, j < σ.2.1 k → ρ k j = σ.1 k j) ∧ ∀ k, k < 6 → (σ.2.2.2.2.1 k).2.2.2.2.2.2.2 = true → τ k = (σ.2.2.2.2.1 k).2.2.2.2.2.2.1
def RMo (h : AH) (σ : CS) (th : Int32) : Prop := ∃ ρ τ, MM h ρ τ σ th ∧ AG ρ τ σ
/-- nothing outside the model is otherwise -/
def FrM (h h' : AH) (n : Nat) : Prop := ∀ i, i < 135 ∨ 158 ≤ i → i < n → h' i = h i
theorem FrM.rf {h : AH} {n : Nat} : FrM h h n := fun _ _ _ => rfl
theorem FrM.tr {h h1 h2 : AH} {n m : Nat} (a : FrM h h1 n) (c : FrM h1 h2 m) (hm : n ≤ m) : FrM h h2 n := fun i p q => (c i p (Nat.lt_of_lt_of_le q hm)).trans (a i p q)
section
variable {h h' : AH} {ρ : Nat → Nat → Int32} {τ : Nat → Int32} {σ : CS} {th : Int32} {k : Nat}
theorem MM.ob (hM : MM h ρ τ σ th) : h 135 = .inr (6, [.int th, .int σ.2.2.2.2.2.2, .int σ.2.2.2.2.2.1, .ref 136, .ref 148, .ref 149, .ref 150, .ref 151, .ref 152, .ref 153, .ref 154, .ref 155, .ref 156, .ref 157]) := hM.1
theorem MM.out (hM : MM h ρ τ σ th) : ∃ g, h 136 = .inl (5, 11, .inr (.inr (.inr (.inr g)))) ∧ ∀ k, k < 11 → g k = some (137 + k) := hM.2.1
theorem MM.row (h : MM h' ρ τ σ th) (hk : k < 11) : h' (137 + k) = .inl (0, 12, .inl (ρ k)) := h.2.2.1 k hk
theorem MM.sz (hM : MM h ρ τ σ th) : h 148 = .inl (0, 11, .inl (fun j => nI (σ.2.1 j))) := hM.2.2.2.1
theorem MM.sf (hM : MM h ρ τ σ th) : h 149 = .inl (0, 11, .inl σ.2.2.1) := hM.2.2.2.2.1
theorem MM.sh (hM : MM h ρ τ σ th) : h 150 = .inl (0, 6, .inl (shF σ)) := hM.2.2.2.2.2.1
theorem MM.hw (hM : MM h ρ τ σ th) : h 151 = .inl (0, 6, .inl (fun j => (σ.2.2.2.2.1 j).2.2.1)) := hM.2.2.2.2.2.2.1
theorem MM.gi (hM : MM h ρ τ σ th) : h 152 = .inl (0, 6, .inl (fun j => (σ.2.2.2.2.1 j).2.2.2.1)) := hM.2.2.2.2.2.2.2.1
theorem MM.st (hM : MM h ρ τ σ th) : h 153 = .inl (0, 6, .inl (fun j => (σ.2.2.2.2.1 j).2.2.2.2.2.1)) := hM.2.2.2.2.2.2.2.2.1
theorem MM.pl (hM : MM h ρ τ σ th) : h 154 = .inl (0, 6, .inl (wAh σ)) := hM.2.2.2.2.2.2.2.2.2.1
theorem MM.ct (hM : MM h ρ τ σ th) : h 155 = .inl (1, 6, .inl (fun j => bI (σ.2.2.2.2.1 j).2.2.2.2.2.2.2)) := hM.2.2.2.2.2.2.2.2.2.2.1
theorem MM.tu (hM : MM h ρ τ σ th) : h 156 = .inl (0, 11, .inl σ.2.2.2.1) := hM.2.2.2.2.2.2.2.2.2.2.2.1
theorem MM.td (hM : MM h ρ τ σ th) : h 157 = .inl (0, 6, .inl τ) := hM.2.2.2.2.2.2.2.2.2.2.2.2
/-- the model's places, whoever writes elsewhere -/
theorem MM.fr (hM : MM h ρ τ σ th) (hF : ∀ i, 135 ≤ i → i < 158 → h' i = h i) : MM h' ρ τ σ th := by
  obtain ⟨g, h1, h2⟩ := hM.out
  exact ⟨(hF 135 (by omega) (by omega)).trans hM.ob, ⟨g, (hF 136 (by omega) (by omega)).trans h1, h2⟩, fun k hk => (hF (137 + k) (by omega) (by omega)).trans (hM.row hk), (hF 148 (by omega) (by omega)).trans hM.sz, (hF 149 (by omega) (by omega)).trans hM.sf, (hF 150 (by omega) (by omega)).trans hM.sh, (hF 151 (by omega) (by omega)).trans hM.hw, (hF 152 (by omega) (by omega)).trans hM.gi, (hF 153 (by omega) (by omega)).trans hM.st, (hF 154 (by omega) (by omega)).trans hM.pl, (hF 155 (by omega) (by omega)).trans hM.ct, (hF 156 (by omega) (by omega)).trans hM.tu, (hF 157 (by omega) (by omega)).trans hM.td⟩
theorem RMo.fr (hM : RMo h σ th) (hF : ∀ i, 135 ≤ i → i < 158 → h' i = h i) : RMo h' σ th := by
  obtain ⟨ρ, τ, h1, h2⟩ := hM
  exact ⟨ρ, τ, h1.fr hF, h2⟩
theorem up_ap {α β : Type} {F : Nat → α} {φ : α → β} {k : Nat} {v : α} : up (fun j => φ (F j)) k (φ v) = fun j => φ (up F k v j) := by
  funext j
  unfold up
  split <;> rfl
/-- the object alone is otherwise -/
theorem MM.obU (hM : MM h ρ τ σ th) {τ' : CS} {t : Int32} (e : h' 135 = .inr (6, [.int t, .int τ'.2.2.2.2.2.2, .int τ'.2.2.2.2.2.1, .ref 136, .ref 148, .ref 149, .ref 150, .ref 151, .ref 152, .ref 153, .ref 154, .ref 155, .ref 156, .ref 157])) (hF : ∀ i, i ≠ 135 → h' i = h i) (e1 : τ'.2.1 = σ.2.1) (e2 : τ'.2.2.1 = σ.2.2.1) (e3 : τ'.2.2.2.1 = σ.2.2.2.1) (e4 : τ'.2.2.2.2.1 = σ.2.2.2.2.1) : MM h' ρ τ τ' t := by
  obtain ⟨g, h1, h2⟩ := hM.out
  have e5 : shF τ' = shF σ := by funext j; unfold shF wO; rw [e4]
  have e6 : wAh τ' = wAh σ := by funext j; unfold wAh; rw [e4]
  refine ⟨e, ⟨g, (hF 136 (by omega)).trans h1, h2⟩, fun k hk => (hF (137 + k) (by omega)).trans (hM.row hk), ?_⟩
  rw [e1, e2, e3, e4, e5, e6]
  exact ⟨(hF 148 (by omega)).trans hM.sz, (hF 149 (by omega)).trans hM.sf, (hF 150 (by omega)).trans hM.sh, (hF 151 (by omega)).trans hM.hw, (hF 152 (by omega)).trans hM.gi, (hF 153 (by omega)).trans hM.st, (hF 154 (by omega)).trans hM.pl, (hF 155 (by omega)).trans hM.ct, (hF 156 (by omega)).trans hM.tu, (hF 157 (by omega)).trans hM.td⟩
/-- a SHELF is otherwise -/
theorem MM.shU (hM : MM h ρ τ σ th) (hk : k < 11) {r f : Nat → Int32} {c : Nat} {s t : Int32} (e0 : h' (137 + k) = .inl (0, 12, .inl r)) (e1 : h' 148 = .inl (0, 11, .inl (up (fun j => nI (σ.2.1 j)) k (nI c)))) (e2 : h' 149 = .inl (0, 11, .inl (up σ.2.2.1 k s))) (e3 : h' 156 = .inl (0, 11, .inl (up σ.2.2.2.1 k t)))
    (hF : ∀ i, i ≠ 137 + k → i ≠ 148 → i ≠ 149 → i ≠ 156 → h' i = h i) : MM h' (up ρ k r) τ (sU σ k f c s t) th := by
  obtain ⟨g, h1, h2⟩ := hM.out
  refine ⟨(hF 135 (by omega) (by omega) (by omega) (by omega)).trans hM.ob, ⟨g, (hF 136 (by omega) (by omega) (by omega) (by omega)).trans h1, h2⟩, fun j hj => ?_, e1.trans (by rw [up_ap]; rfl), e2, (hF 150 (by omega) (by omega) (by omega) (by omega)).trans hM.sh, (hF 151 (by omega) (by omega) (by omega) (by omega)).trans hM.hw, (hF 152 (by omega) (by omega) (by omega) (by omega)).trans hM.gi, (hF 153 (by omega) (by omega) (by omega) (by omega)).trans hM.st, (hF 154 (by omega) (by omega) (by omega) (by omega)).trans hM.pl, (hF 155 (by omega) (by omega) (by omega) (by omega)).trans hM.ct, e3, (hF 157 (by omega) (by omega) (by omega) (by omega)).trans hM.td⟩
  by_cases e : j = k
  · subst e
    rw [up_s]
    exact e0
  · rw [up_n e]
    exact (hF (137 + j) (by omega) (by omega) (by omega) (by omega)).trans (hM.row hj)
theorem AG.shU (hA : AG ρ τ σ) {r f : Nat → Int32} {c : Nat} {s t : Int32} (hr : ∀ j, j < c → r j = f j) : AG (up ρ k r) τ (sU σ k f c s t) := by
  refine ⟨fun j hj i hi => ?_, hA.2⟩
  by_cases e : j = k
  · subst e
    have hi' : i < up σ.2.1 j c j := hi
    rw [up_s] at hi'
    show up ρ j r j i = up σ.1 j f j i
    rw [up_s, up_s]
    exact hr i hi'
  · have hi' : i < up σ.2.1 k c j := hi
    rw [up_n e] at hi'
    show up ρ k r j i = up σ.1 k f j i
    rw [up_n e, up_n e]
    exact hA.1 j hj i hi'
/-- a WALK is otherwise -/
theorem MM.wkU (hM : MM h ρ τ σ th) (hk : k < 6) {q : WT} {t : Int32} (e0 : h' 150 = .inl (0, 6, .inl (up (shF σ) k (if q.1 then nI q.2.1 else -1)))) (e1 : h' 151 = .inl (0, 6, .inl (up (fun j => (σ.2.2.2.2.1 j).2.2.1) k q.2.2.1))) (e2 : h' 152 = .inl (0, 6, .inl (up (fun j => (σ.2.2.2.2.1 j).2.2.2.1) k q.2.2.2.1)))
    (e3 : h' 153 = .inl (0, 6, .inl (up (fun j => (σ.2.2.2.2.1 j).2.2.2.2.2.1) k q.2.2.2.2.2.1))) (e4 : h' 154 = .inl (0, 6, .inl (up (wAh σ) k (q.2.2.2.1 - q.2.2.2.2.1)))) (e5 : h' 155 = .inl (1, 6, .inl (up (fun j => bI (σ.2.2.2.2.1 j).2.2.2.2.2.2.2) k (bI q.2.2.2.2.2.2.2)))) (e6 : h' 157 = .inl (0, 6, .inl (up τ k t)))
    (hF : ∀ i, i < 150 ∨ 158 ≤ i ∨ i = 156 → h' i = h i) : MM h' ρ (up τ k t) (wU σ k q) th := by
  obtain ⟨g, h1, h2⟩ := hM.out
  have a0 : up (shF σ) k (if q.1 then nI q.2.1 else -1) = shF (wU σ k q) := by
    funext j
    unfold up shF
    by_cases e : j = k
    · rw [if_pos e, e, if_pos hk]
      show _ = if (up σ.2.2.2.2.1 k q k).1 = true then nI (up σ.2.2.2.2.1 k q k).2.1 else -1
      rw [up_s]
    · rw [if_neg e]
      show _ = if j < 6 then if (up σ.2.2.2.2.1 k q j).1 = true then nI (up σ.2.2.2.2.1 k q j).2.1 else -1 else 0
      rw [up_n e]
      rfl
  have a4 : up (wAh σ) k (q.2.2.2.1 - q.2.2.2.2.1) = wAh (wU σ k q) := by
    funext j
    unfold wAh
    show up _ k _ j = (up σ.2.2.2.2.1 k q j).2.2.2.1 - (up σ.2.2.2.2.1 k q j).2.2.2.2.1
    unfold up
    by_cases e : j = k
    · rw [if_pos e, if_pos e]
    · rw [if_neg e, if_neg e]
  rw [a0] at e0
  rw [a4] at e4
  exact ⟨(hF 135 (by omega)).trans hM.ob, ⟨g, (hF 136 (by omega)).trans h1, h2⟩, fun j hj => (hF (137 + j) (by omega)).trans (hM.row hj), (hF 148 (by omega)).trans hM.sz, (hF 149 (by omega)).trans hM.sf, e0, e1.trans (by rw [up_ap (φ := fun q : WT => q.2.2.1) (v := q)]; rfl), e2.trans (by rw [up_ap (φ := fun q : WT => q.2.2.2.1) (v := q)]; rfl), e3.trans (by rw [up_ap (φ := fun q : WT => q.2.2.2.2.2.1) (v := q)]; rfl), e4, e5.trans (by rw [up_ap (φ := fun q : WT => bI q.2.2.2.2.2.2.2) (v := q)]; rfl), (hF 156 (by omega)).trans hM.tu, e6⟩
theorem AG.wkU (hA : AG ρ τ σ) {q : WT} {t : Int32} (ht : q.2.2.2.2.2.2.2 = true → t = q.2.2.2.2.2.2.1) : AG ρ (up τ k t) (wU σ k q) := by
  refine ⟨hA.1, fun j hj => ?_⟩
  by_cases e : j = k
  · subst e
    show (up σ.2.2.2.2.1 j q j).2.2.2.2.2.2.2 = true → up τ j t j = (up σ.2.2.2.2.1 j q j).2.2.2.2.2.2.1
    rw [up_s, up_s]
    exact ht
  · show (up σ.2.2.2.2.1 k q j).2.2.2.2.2.2.2 = true → up τ k t j = (up σ.2.2.2.2.1 k q j).2.2.2.2.2.2.1
    rw [up_n e, up_n e]
    exact hA.2 j hj
end
/-- an end: what it answers, what the model holds then -/
def RP (h : AH) (n : Nat) (r : Option Value) (σ : CS) (th : Int32) : ARes → AH → Nat → Prop := fun r' h' n' => r' = .inl r ∧ n' = n ∧ RMo h' σ th ∧ FrM h h' n
theorem rp_k {A : Nat → AH → Option Value → Prop} {h : AH} {σ : CS} {th : Int32} {n n0 : Nat} {r : Option Value} (k : ∀ h' ρ τ, MM h' ρ τ σ th → AG ρ τ σ → FrM h h' n → A n h' r) : ∀ (v : Option Value) (h' : AH) (n' : Nat), n0 ≤ n' → RP h n r σ th (.inl v) h' n' → A n' h' v := by
  rintro v h' n' - ⟨e, rfl, ⟨ρ, τ, g1, g2⟩, g3⟩
  cases e
  exact k h' ρ τ g1 g2 g3
theorem rp_x {A : Prop} {h : AH} {σ : CS} {th : Int32} {n : Nat} {r : Option Value} {E : String} {h' : AH} {n' : Nat} (z : RP h n r σ th (.inr E) h' n') : A := by cases z.1
theorem FrM.of1 {h h' : AH} {n : Nat} (hF : ∀ i, i < 135 ∨ 158 ≤ i → h' i = h i) : FrM h h' n := fun i q _ => hF i q
/-! leaves -/
def inB (x a b : Int32) : Bool := decide (a ≤ x ∧ x ≤ b)
theorem inB_t {x a b : Int32} (h1 : a ≤ x) (h2 : x ≤ b) : inB x a b = true := decide_eq_true ⟨h1, h2⟩
theorem inB_f1 {x a b : Int32} (h : x < a) : inB x a b = false := decide_eq_false (fun q => Int32.not_le.mpr h q.1)
theorem inB_f2 {x a b : Int32} (h : b < x) : inB x a b = false := decide_eq_false (fun q => Int32.not_le.mpr h q.2)
theorem inB_k {k N : Nat} (h : k ≤ N) (hN : N < 2 ^ 31) : inB (nI k) 0 (nI N) = true := inB_t (nI_pos' (by omega)) ((nI_leI (by omega) hN).mpr h)
def b3 (a b c : Bool) : Int32 := if a then 1 else if b then 2 else if c then 3 else 0
theorem q_isIn {h : AH} {d bc bs n : Nat} {x a b : Int32}  : SM SR0 MX5_isIn d bc bs [.int x, .int a, .int b] h n (Det (rI (bI (inB x a b))) h n) := by
  refine sm_of pn_OverwalksModel rfl (Nat.le_of_ble_eq_true rfl) ?_
  refine sw_iload_n (pc' := 1) rfl dX5_isIn_0 rfl ?_
  refine sw_iload_n (pc' := 2) rfl dX5_isIn_1 rfl ?_
  refine sw_icmp_lt (pc' := 5) (tgt := 14) rfl dX5_isIn_2 (by decide +kernel) (fun c2 => ?_) (fun c2 => ?_)
  · refine sw_iconst (pc' := 15) (v := 0) rfl dX5_isIn_14 (by decide +kernel) ?_
    refine sw_ret (v := some _) ⟨dX5_isIn_15, _, rfl, rfl⟩ ?_
    exact ⟨by rw [inB_f1 c2]; rfl, rfl, rfl⟩
  · refine sw_iload_n (pc' := 6) rfl dX5_isIn_5 rfl ?_
    refine sw_iload_n (pc' := 7) rfl dX5_isIn_6 rfl ?_
    refine sw_icmp_gt (pc' := 10) (tgt := 14) rfl dX5_isIn_7 (by decide +kernel) (fun c7 => ?_) (fun c7 => ?_)
    · refine sw_iconst (pc' := 15) (v := 0) rfl dX5_isIn_14 (by decide +kernel) ?_
      refine sw_ret (v := some _) ⟨dX5_isIn_15, _, rfl, rfl⟩ ?_
      exact ⟨by rw [inB_f2 c7]; rfl, rfl, rfl⟩
    · refine sw_iconst (pc' := 11) (v := 1) rfl dX5_isIn_10 (by decide +kernel) ?_
      refine sw_goto (tgt := 15) dX5_isIn_11 (by decide +kernel) ?_
      refine sw_ret (v := some _) ⟨dX5_isIn_15, _, rfl, rfl⟩ ?_
      exact ⟨by rw [inB_t (Int32.not_lt.mp c2) (Int32.not_lt.mp c7)]; rfl, rfl, rfl⟩
theorem q_one {h : AH} {d bc bs n : Nat} {q : Bool}  : SM SR0 MX5_one d bc bs [.int (bI q)] h n (Det (rI (bI q)) h n) := by
  refine sm_of pn_OverwalksModel rfl (Nat.le_of_ble_eq_true rfl) ?_
  refine sw_iload_n (pc' := 1) rfl dX5_one_0 rfl ?_
  refine sw_if_eq (pc' := 4) (tgt := 8) rfl dX5_one_1 (by decide +kernel) (fun c1 => ?_) (fun c1 => ?_)
  · refine sw_iconst (pc' := 9) (v := 0) rfl dX5_one_8 (by decide +kernel) ?_
    refine sw_ret (v := some _) ⟨dX5_one_9, _, rfl, rfl⟩ ?_
    exact ⟨by rw [bI_0 c1]; rfl, rfl, rfl⟩
  · refine sw_iconst (pc' := 5) (v := 1) rfl dX5_one_4 (by decide +kernel) ?_
    refine sw_goto (tgt := 9) dX5_one_5 (by decide +kernel) ?_
    refine sw_ret (v := some _) ⟨dX5_one_9, _, rfl, rfl⟩ ?_
    exact ⟨by rw [bI_1 c1]; rfl, rfl, rfl⟩
theorem q_isNone {h : AH} {d bc bs n : Nat} {x : Int32} (hd : 1 ≤ d) : SM SR0 MX5_isNone d bc bs [.int x] h n (Det (rI (bI (!inB x 0 10))) h n) := by
  refine sm_of pn_OverwalksModel rfl (Nat.le_of_ble_eq_true rfl) ?_
  refine sw_iload_n (pc' := 1) rfl dX5_isNone_0 rfl ?_
  refine sw_iconst (pc' := 2) (v := 0) rfl dX5_isNone_1 (by decide +kernel) ?_
  refine sw_bipush (pc' := 4) (v := 10) rfl dX5_isNone_2 (by decide +kernel) ?_
  refine sw_S (M' := MX5_isIn) (d' := d - 1) (bc' := 0) (bs' := 0) (as := [_, _, _]) dX5_isNone_4 w_1168 ok_X5_isIn (q_isIn) (by omega) (Nat.le_of_ble_eq_true rfl) (Nat.zero_le _) (Nat.zero_le _) (fun E h' n' _ z => det_x z) (det_k ?_)
  refine sw_if_ne (pc' := 10) (tgt := 14) rfl dX5_isNone_7 (by decide +kernel) (fun c7 => ?_) (fun c7 => ?_)
  · refine sw_iconst (pc' := 15) (v := 0) rfl dX5_isNone_14 (by decide +kernel) ?_
    refine sw_ret (v := some _) ⟨dX5_isNone_15, _, rfl, rfl⟩ ?_
    exact ⟨by rw [bI_1 c7]; rfl, rfl, rfl⟩
  · refine sw_iconst (pc' := 11) (v := 1) rfl dX5_isNone_10 (by decide +kernel) ?_
    refine sw_goto (tgt := 15) dX5_isNone_11 (by decide +kernel) ?_
    refine sw_ret (v := some _) ⟨dX5_isNone_15, _, rfl, rfl⟩ ?_
    exact ⟨by rw [bI_0 c7]; rfl, rfl, rfl⟩
theorem q_isNoThing {h : AH} {d bc bs n : Nat} {x : Int32} (hd : 1 ≤ d) : SM SR0 MX5_isNoThing d bc bs [.int x] h n (Det (rI (bI (!inB x 0 100))) h n) := by
  refine sm_of pn_OverwalksModel rfl (Nat.le_of_ble_eq_true rfl) ?_
  refine sw_iload_n (pc' := 1) rfl dX5_isNoThing_0 rfl ?_
  refine sw_iconst (pc' := 2) (v := 0) rfl dX5_isNoThing_1 (by decide +kernel) ?_
  refine sw_bipush (pc' := 4) (v := 100) rfl dX5_isNoThing_2 (by decide +kernel) ?_
  refine sw_S (M' := MX5_isIn) (d' := d - 1) (bc' := 0) (bs' := 0) (as := [_, _, _]) dX5_isNoThing_4 w_1168 ok_X5_isIn (q_isIn) (by omega) (Nat.le_of_ble_eq_true rfl) (Nat.zero_le _) (Nat.zero_le _) (fun E h' n' _ z => det_x z) (det_k ?_)
  refine sw_if_ne (pc' := 10) (tgt := 14) rfl dX5_isNoThing_7 (by decide +kernel) (fun c7 => ?_) (fun c7 => ?_)
  · refine sw_iconst (pc' := 15) (v := 0) rfl dX5_isNoThing_14 (by decide +kernel) ?_
    refine sw_ret (v := some _) ⟨dX5_isNoThing_15, _, rfl, rfl⟩ ?_
    exact ⟨by rw [bI_1 c7]; rfl, rfl, rfl⟩
  · refine sw_iconst (pc' := 11) (v := 1) rfl dX5_isNoThing_10 (by decide +kernel) ?_
    refine sw_goto (tgt := 15) dX5_isNoThing_11 (by decide +kernel) ?_
    refine sw_ret (v := some _) ⟨dX5_isNoThing_15, _, rfl, rfl⟩ ?_
    exact ⟨by rw [bI_0 c7]; rfl, rfl, rfl⟩
theorem q_isNoWalk {h : AH} {d bc bs n : Nat} {x : Int32} (hd : 1 ≤ d) : SM SR0 MX5_isNoWalk d bc bs [.int x] h n (Det (rI (bI (!inB x 0 5))) h n) := by
  refine sm_of pn_OverwalksModel rfl (Nat.le_of_ble_eq_true rfl) ?_
  refine sw_iload_n (pc' := 1) rfl dX5_isNoWalk_0 rfl ?_
  refine sw_iconst (pc' := 2) (v := 0) rfl dX5_isNoWalk_1 (by decide +kernel) ?_
  refine sw_iconst (pc' := 3) (v := 5) rfl dX5_isNoWalk_2 (by decide +kernel) ?_
  refine sw_S (M' := MX5_isIn) (d' := d - 1) (bc' := 0) (bs' := 0) (as := [_, _, _]) dX5_isNoWalk_3 w_1168 ok_X5_isIn (q_isIn) (by omega) (Nat.le_of_ble_eq_true rfl) (Nat.zero_le _) (Nat.zero_le _) (fun E h' n' _ z => det_x z) (det_k ?_)
  refine sw_if_ne (pc' := 9) (tgt := 13) rfl dX5_isNoWalk_6 (by decide +kernel) (fun c6 => ?_) (fun c6 => ?_)
  · refine sw_iconst (pc' := 14) (v := 0) rfl dX5_isNoWalk_13 (by decide +kernel) ?_
    refine sw_ret (v := some _) ⟨dX5_isNoWalk_14, _, rfl, rfl⟩ ?_
    exact ⟨by rw [bI_1 c6]; rfl, rfl, rfl⟩
  · refine sw_iconst (pc' := 10) (v := 1) rfl dX5_isNoWalk_9 (by decide +kernel) ?_
    refine sw_goto (tgt := 14) dX5_isNoWalk_10 (by decide +kernel) ?_
    refine sw_ret (v := some _) ⟨dX5_isNoWalk_14, _, rfl, rfl⟩ ?_
    exact ⟨by rw [bI_0 c6]; rfl, rfl, rfl⟩
theorem q_isNoList {h : AH} {d bc bs n : Nat} {x : Int32} (hd : 1 ≤ d) : SM SR0 MX5_isNoList d bc bs [.int x] h n (Det (rI (bI (!inB x 8 10))) h n) := by
  refine sm_of pn_OverwalksModel rfl (Nat.le_of_ble_eq_true rfl) ?_
  refine sw_iload_n (pc' := 1) rfl dX5_isNoList_0 rfl ?_
  refine sw_bipush (pc' := 3) (v := 8) rfl dX5_isNoList_1 (by decide +kernel) ?_
  refine sw_bipush (pc' := 5) (v := 10) rfl dX5_isNoList_3 (by decide +kernel) ?_
  refine sw_S (M' := MX5_isIn) (d' := d - 1) (bc' := 0) (bs' := 0) (as := [_, _, _]) dX5_isNoList_5 w_1168 ok_X5_isIn (q_isIn) (by omega) (Nat.le_of_ble_eq_true rfl) (Nat.zero_le _) (Nat.zero_le _) (fun E h' n' _ z => det_x z) (det_k ?_)
  refine sw_if_ne (pc' := 11) (tgt := 15) rfl dX5_isNoList_8 (by decide +kernel) (fun c8 => ?_) (fun c8 => ?_)
  · refine sw_iconst (pc' := 16) (v := 0) rfl dX5_isNoList_15 (by decide +kernel) ?_
    refine sw_ret (v := some _) ⟨dX5_isNoList_16, _, rfl, rfl⟩ ?_
    exact ⟨by rw [bI_1 c8]; rfl, rfl, rfl⟩
  · refine sw_iconst (pc' := 12) (v := 1) rfl dX5_isNoList_11 (by decide +kernel) ?_
    refine sw_goto (tgt := 16) dX5_isNoList_12 (by decide +kernel) ?_
    refine sw_ret (v := some _) ⟨dX5_isNoList_16, _, rfl, rfl⟩ ?_
    exact ⟨by rw [bI_0 c8]; rfl, rfl, rfl⟩
def nrB (x : Int32) : Bool := !inB x 0 10 || (decide (2 < x) && decide (x < 8))
theorem q_isNoRow {h : AH} {d bc bs n : Nat} {x : Int32} (hd : 2 ≤ d) : SM SR0 MX5_isNoRow d bc bs [.int x] h n (Det (rI (bI (nrB x))) h n) := by
  refine sm_of pn_OverwalksModel rfl (Nat.le_of_ble_eq_true rfl) ?_
  refine sw_iload_n (pc' := 1) rfl dX5_isNoRow_0 rfl ?_
  refine sw_S (M' := MX5_isNone) (d' := d - 1) (bc' := 0) (bs' := 0) (as := [_]) dX5_isNoRow_1 w_1165 ok_X5_isNone (q_isNone (by omega)) (by omega) (Nat.le_of_ble_eq_true rfl) (Nat.zero_le _) (Nat.zero_le _) (fun E h' n' _ z => det_x z) (det_k ?_)
  refine sw_if_ne (pc' := 7) (tgt := 18) rfl dX5_isNoRow_4 (by decide +kernel) (fun c4 => ?_) (fun c4 => ?_)
  · refine sw_iconst (pc' := 19) (v := 1) rfl dX5_isNoRow_18 (by decide +kernel) ?_
    refine sw_goto (tgt := 23) dX5_isNoRow_19 (by decide +kernel) ?_
    refine sw_ret (v := some _) ⟨dX5_isNoRow_23, _, rfl, rfl⟩ ?_
    exact ⟨by rw [nrB, bI_1 c4]; rfl, rfl, rfl⟩
  · refine sw_iload_n (pc' := 8) rfl dX5_isNoRow_7 rfl ?_
    refine sw_iconst (pc' := 9) (v := 2) rfl dX5_isNoRow_8 (by decide +kernel) ?_
    refine sw_icmp_le (pc' := 12) (tgt := 22) rfl dX5_isNoRow_9 (by decide +kernel) (fun c9 => ?_) (fun c9 => ?_)
    · refine sw_iconst (pc' := 23) (v := 0) rfl dX5_isNoRow_22 (by decide +kernel) ?_
      refine sw_ret (v := some _) ⟨dX5_isNoRow_23, _, rfl, rfl⟩ ?_
      exact ⟨by rw [nrB, bI_0 c4, decide_eq_false (Int32.not_lt.mpr c9)]; rfl, rfl, rfl⟩
    · refine sw_iload_n (pc' := 13) rfl dX5_isNoRow_12 rfl ?_
      refine sw_bipush (pc' := 15) (v := 8) rfl dX5_isNoRow_13 (by decide +kernel) ?_
      refine sw_icmp_ge (pc' := 18) (tgt := 22) rfl dX5_isNoRow_15 (by decide +kernel) (fun c15 => ?_) (fun c15 => ?_)
      · refine sw_iconst (pc' := 23) (v := 0) rfl dX5_isNoRow_22 (by decide +kernel) ?_
        refine sw_ret (v := some _) ⟨dX5_isNoRow_23, _, rfl, rfl⟩ ?_
        exact ⟨by rw [nrB, bI_0 c4, decide_eq_false (Int32.not_lt.mpr c15), Bool.and_false]; rfl, rfl, rfl⟩
      · refine sw_iconst (pc' := 19) (v := 1) rfl dX5_isNoRow_18 (by decide +kernel) ?_
        refine sw_goto (tgt := 23) dX5_isNoRow_19 (by decide +kernel) ?_
        refine sw_ret (v := some _) ⟨dX5_isNoRow_23, _, rfl, rfl⟩ ?_
        exact ⟨by rw [nrB, bI_0 c4, decide_eq_true (Int32.not_le.mp c9), decide_eq_true (Int32.not_le.mp c15)]; rfl, rfl, rfl⟩
def tbB (x : Int32) : Bool := decide (x = 6) || decide (x = 7)
theorem q_isTable {h : AH} {d bc bs n : Nat} {x : Int32}  : SM SR0 MX5_isTable d bc bs [.int x] h n (Det (rI (bI (tbB x))) h n) := by
  refine sm_of pn_OverwalksModel rfl (Nat.le_of_ble_eq_true rfl) ?_
  refine sw_iload_n (pc' := 1) rfl dX5_isTable_0 rfl ?_
  refine sw_bipush (pc' := 3) (v := 6) rfl dX5_isTable_1 (by decide +kernel) ?_
  refine sw_icmp_eq (pc' := 6) (tgt := 12) rfl dX5_isTable_3 (by decide +kernel) (fun c3 => ?_) (fun c3 => ?_)
  · refine sw_iconst (pc' := 13) (v := 1) rfl dX5_isTable_12 (by decide +kernel) ?_
    refine sw_goto (tgt := 17) dX5_isTable_13 (by decide +kernel) ?_
    refine sw_ret (v := some _) ⟨dX5_isTable_17, _, rfl, rfl⟩ ?_
    exact ⟨by rw [tbB, decide_eq_true c3]; rfl, rfl, rfl⟩
  · refine sw_iload_n (pc' := 7) rfl dX5_isTable_6 rfl ?_
    refine sw_bipush (pc' := 9) (v := 7) rfl dX5_isTable_7 (by decide +kernel) ?_
    refine sw_icmp_ne (pc' := 12) (tgt := 16) rfl dX5_isTable_9 (by decide +kernel) (fun c9 => ?_) (fun c9 => ?_)
    · refine sw_iconst (pc' := 17) (v := 0) rfl dX5_isTable_16 (by decide +kernel) ?_
      refine sw_ret (v := some _) ⟨dX5_isTable_17, _, rfl, rfl⟩ ?_
      exact ⟨by rw [tbB, decide_eq_false c3, decide_eq_false c9]; rfl, rfl, rfl⟩
    · refine sw_iconst (pc' := 13) (v := 1) rfl dX5_isTable_12 (by decide +kernel) ?_
      refine sw_goto (tgt := 17) dX5_isTable_13 (by decide +kernel) ?_
      refine sw_ret (v := some _) ⟨dX5_isTable_17, _, rfl, rfl⟩ ?_
      exact ⟨by rw [tbB, decide_eq_true c9, Bool.or_true]; rfl, rfl, rfl⟩
def tnB (x : Int32) : Bool := !decide (x = 3) && (!decide (x = 5) && !tbB x)
theorem q_takesNothing {h : AH} {d bc bs n : Nat} {x : Int32} (hd : 1 ≤ d) : SM SR0 MX5_takesNothing d bc bs [.int x] h n (Det (rI (bI (tnB x))) h n) := by
  refine sm_of pn_OverwalksModel rfl (Nat.le_of_ble_eq_true rfl) ?_
  refine sw_iload_n (pc' := 1) rfl dX5_takesNothing_0 rfl ?_
  refine sw_iconst (pc' := 2) (v := 3) rfl dX5_takesNothing_1 (by decide +kernel) ?_
  refine sw_icmp_eq (pc' := 5) (tgt := 21) rfl dX5_takesNothing_2 (by decide +kernel) (fun c2 => ?_) (fun c2 => ?_)
  · refine sw_iconst (pc' := 22) (v := 0) rfl dX5_takesNothing_21 (by decide +kernel) ?_
    refine sw_ret (v := some _) ⟨dX5_takesNothing_22, _, rfl, rfl⟩ ?_
    exact ⟨by rw [tnB, decide_eq_true c2]; rfl, rfl, rfl⟩
  · refine sw_iload_n (pc' := 6) rfl dX5_takesNothing_5 rfl ?_
    refine sw_iconst (pc' := 7) (v := 5) rfl dX5_takesNothing_6 (by decide +kernel) ?_
    refine sw_icmp_eq (pc' := 10) (tgt := 21) rfl dX5_takesNothing_7 (by decide +kernel) (fun c7 => ?_) (fun c7 => ?_)
    · refine sw_iconst (pc' := 22) (v := 0) rfl dX5_takesNothing_21 (by decide +kernel) ?_
      refine sw_ret (v := some _) ⟨dX5_takesNothing_22, _, rfl, rfl⟩ ?_
      exact ⟨by rw [tnB, decide_eq_true c7, Bool.and_comm]; rfl, rfl, rfl⟩
    · refine sw_iload_n (pc' := 11) rfl dX5_takesNothing_10 rfl ?_
      refine sw_S (M' := MX5_isTable) (d' := d - 1) (bc' := 0) (bs' := 0) (as := [_]) dX5_takesNothing_11 w_1178 ok_X5_isTable (q_isTable) (by omega) (Nat.le_of_ble_eq_true rfl) (Nat.zero_le _) (Nat.zero_le _) (fun E h' n' _ z => det_x z) (det_k ?_)
      refine sw_if_ne (pc' := 17) (tgt := 21) rfl dX5_takesNothing_14 (by decide +kernel) (fun c14 => ?_) (fun c14 => ?_)
      · refine sw_iconst (pc' := 22) (v := 0) rfl dX5_takesNothing_21 (by decide +kernel) ?_
        refine sw_ret (v := some _) ⟨dX5_takesNothing_22, _, rfl, rfl⟩ ?_
        exact ⟨by rw [tnB, bI_1 c14, Bool.not_true, Bool.and_false, Bool.and_false]; rfl, rfl, rfl⟩
      · refine sw_iconst (pc' := 18) (v := 1) rfl dX5_takesNothing_17 (by decide +kernel) ?_
        refine sw_goto (tgt := 22) dX5_takesNothing_18 (by decide +kernel) ?_
        refine sw_ret (v := some _) ⟨dX5_takesNothing_22, _, rfl, rfl⟩ ?_
        exact ⟨by rw [tnB, decide_eq_false c2, decide_eq_false c7, bI_0 c14]; rfl, rfl, rfl⟩
theorem tb_k {k : Nat} (hk : k < 11) : tbB (nI k) = decide (kdO k = 5) := by
  revert k; decide
theorem tn_k {k : Nat} (hk : k < 11) : tnB (nI k) = kN (kdO k) := by
  revert k; decide
theorem nr_k {k : Nat} (hk : k < 11) : nrB (nI k) = !kP (kdO k) := by
  revert k; decide
theorem no_x {N : Nat} {a : Int32} (hN : N + 1 < 2 ^ 31) (q : a < 0 ∨ nI (N + 1) ≤ a) : inB a 0 (nI N) = false := by
  rcases q with q | q
  · exact inB_f1 q
  · by_cases g : a < 0
    · exact inB_f1 g
    · obtain ⟨j, hj, rfl⟩ := nI_of g
      exact inB_f2 (nI_lt (by have := (nI_leI (by omega) hj).mp q; omega) hj)
theorem q_isStopped {h : AH} {d bc bs n : Nat} {ρ : Nat → Nat → Int32} {τ : Nat → Int32} {σ : CS} {th : Int32} {a b c : Bool} (hM : MM h ρ τ σ th) (hA : AG ρ τ σ) : SM SR0 MX5_isStopped d bc bs [.ref 135, .int (bI a), .int (bI b), .int (bI c)] h n (RP h n (some (.int (bI (a || (b || c))))) σ (b3 a b c)) := by
  refine sm_of pn_OverwalksModel rfl (Nat.le_of_ble_eq_true rfl) ?_
  refine sw_aload_n (pc' := 1) rfl dX5_isStopped_0 rfl ?_
  refine sw_iload_n (pc' := 2) rfl dX5_isStopped_1 rfl ?_
  refine sw_if_eq (pc' := 5) (tgt := 9) rfl dX5_isStopped_2 (by decide +kernel) (fun c2 => ?_) (fun c2 => ?_)
  · refine sw_iload_n (pc' := 10) rfl dX5_isStopped_9 rfl ?_
    refine sw_if_eq (pc' := 13) (tgt := 17) rfl dX5_isStopped_10 (by decide +kernel) (fun c10 => ?_) (fun c10 => ?_)
    · refine sw_iload_n (pc' := 18) rfl dX5_isStopped_17 rfl ?_
      refine sw_if_eq (pc' := 21) (tgt := 25) rfl dX5_isStopped_18 (by decide +kernel) (fun c18 => ?_) (fun c18 => ?_)
      · refine sw_iconst (pc' := 26) (v := 0) rfl dX5_isStopped_25 (by decide +kernel) ?_
        refine sw_putf (ci := 6) (k := 0) (pc' := 29) rfl dX5_isStopped_26 (by decide +kernel) (by decide +kernel) w_1113 rfl hM.ob (by decide +kernel) (Nat.le_of_ble_eq_true rfl) rfl rfl ?_
        refine sw_nm (fun g1 eg1 => ?_)
        have zg1 := (congrFun eg1 135).trans (up_s (h := h) (i := 135))
        refine sw_aload_n (pc' := 30) rfl dX5_isStopped_29 rfl ?_
        refine sw_getf (ci := 6) (k := 0) (pc' := 33) rfl dX5_isStopped_30 (by decide +kernel) w_1113 zg1 rfl ?_
        refine sw_if_le (pc' := 36) (tgt := 40) rfl dX5_isStopped_33 (by decide +kernel) (fun c33 => ?_) (fun c33 => ?_)
        · refine sw_iconst (pc' := 41) (v := 0) rfl dX5_isStopped_40 (by decide +kernel) ?_
          refine sw_ret (v := some _) ⟨dX5_isStopped_41, _, rfl, rfl⟩ ?_
          rw [bI_0 c2, bI_0 c10, bI_0 c18]
          exact ⟨rfl, rfl, ⟨_, _, hM.obU (τ' := σ) zg1 (fun i h1 => (congrFun eg1 i).trans ((up_n h1).trans (rfl))) rfl rfl rfl rfl, hA⟩, FrM.of1 (fun i q => (congrFun eg1 i).trans ((up_n (by omega)).trans (rfl)))⟩
        · exact absurd c33 (by decide +kernel)
      · refine sw_iconst (pc' := 22) (v := 3) rfl dX5_isStopped_21 (by decide +kernel) ?_
        refine sw_goto (tgt := 26) dX5_isStopped_22 (by decide +kernel) ?_
        refine sw_putf (ci := 6) (k := 0) (pc' := 29) rfl dX5_isStopped_26 (by decide +kernel) (by decide +kernel) w_1113 rfl hM.ob (by decide +kernel) (Nat.le_of_ble_eq_true rfl) rfl rfl ?_
        refine sw_nm (fun g2 eg2 => ?_)
        have zg2 := (congrFun eg2 135).trans (up_s (h := h) (i := 135))
        refine sw_aload_n (pc' := 30) rfl dX5_isStopped_29 rfl ?_
        refine sw_getf (ci := 6) (k := 0) (pc' := 33) rfl dX5_isStopped_30 (by decide +kernel) w_1113 zg2 rfl ?_
        refine sw_if_le (pc' := 36) (tgt := 40) rfl dX5_isStopped_33 (by decide +kernel) (fun c33 => ?_) (fun c33 => ?_)
        · exact absurd c33 (by decide +kernel)
        · refine sw_iconst (pc' := 37) (v := 1) rfl dX5_isStopped_36 (by decide +kernel) ?_
          refine sw_goto (tgt := 41) dX5_isStopped_37 (by decide +kernel) ?_
          refine sw_ret (v := some _) ⟨dX5_isStopped_41, _, rfl, rfl⟩ ?_
          rw [bI_0 c2, bI_0 c10, bI_1 c18]
          exact ⟨rfl, rfl, ⟨_, _, hM.obU (τ' := σ) zg2 (fun i h1 => (congrFun eg2 i).trans ((up_n h1).trans (rfl))) rfl rfl rfl rfl, hA⟩, FrM.of1 (fun i q => (congrFun eg2 i).trans ((up_n (by omega)).trans (rfl)))⟩
    · refine sw_iconst (pc' := 14) (v := 2) rfl dX5_isStopped_13 (by decide +kernel) ?_
      refine sw_goto (tgt := 26) dX5_isStopped_14 (by decide +kernel) ?_
      refine sw_putf (ci := 6) (k := 0) (pc' := 29) rfl dX5_isStopped_26 (by decide +kernel) (by decide +kernel) w_1113 rfl hM.ob (by decide +kernel) (Nat.le_of_ble_eq_true rfl) rfl rfl ?_
      refine sw_nm (fun g3 eg3 => ?_)
      have zg3 := (congrFun eg3 135).trans (up_s (h := h) (i := 135))
      refine sw_aload_n (pc' := 30) rfl dX5_isStopped_29 rfl ?_
      refine sw_getf (ci := 6) (k := 0) (pc' := 33) rfl dX5_isStopped_30 (by decide +kernel) w_1113 zg3 rfl ?_
      refine sw_if_le (pc' := 36) (tgt := 40) rfl dX5_isStopped_33 (by decide +kernel) (fun c33 => ?_) (fun c33 => ?_)
      · exact absurd c33 (by decide +kernel)
      · refine sw_iconst (pc' := 37) (v := 1) rfl dX5_isStopped_36 (by decide +kernel) ?_
        refine sw_goto (tgt := 41) dX5_isStopped_37 (by decide +kernel) ?_
        refine sw_ret (v := some _) ⟨dX5_isStopped_41, _, rfl, rfl⟩ ?_
        rw [bI_0 c2, bI_1 c10]
        exact ⟨rfl, rfl, ⟨_, _, hM.obU (τ' := σ) zg3 (fun i h1 => (congrFun eg3 i).trans ((up_n h1).trans (rfl))) rfl rfl rfl rfl, hA⟩, FrM.of1 (fun i q => (congrFun eg3 i).trans ((up_n (by omega)).trans (rfl)))⟩
  · refine sw_iconst (pc' := 6) (v := 1) rfl dX5_isStopped_5 (by decide +kernel) ?_
    refine sw_goto (tgt := 26) dX5_isStopped_6 (by decide +kernel) ?_
    refine sw_putf (ci := 6) (k := 0) (pc' := 29) rfl dX5_isStopped_26 (by decide +kernel) (by decide +kernel) w_1113 rfl hM.ob (by decide +kernel) (Nat.le_of_ble_eq_true rfl) rfl rfl ?_
    refine sw_nm (fun g4 eg4 => ?_)
    have zg4 := (congrFun eg4 135).trans (up_s (h := h) (i := 135))
    refine sw_aload_n (pc' := 30) rfl dX5_isStopped_29 rfl ?_
    refine sw_getf (ci := 6) (k := 0) (pc' := 33) rfl dX5_isStopped_30 (by decide +kernel) w_1113 zg4 rfl ?_
    refine sw_if_le (pc' := 36) (tgt := 40) rfl dX5_isStopped_33 (by decide +kernel) (fun c33 => ?_) (fun c33 => ?_)
    · exact absurd c33 (by decide +kernel)
    · refine sw_iconst (pc' := 37) (v := 1) rfl dX5_isStopped_36 (by decide +kernel) ?_
      refine sw_goto (tgt := 41) dX5_isStopped_37 (by decide +kernel) ?_
      refine sw_ret (v := some _) ⟨dX5_isStopped_41, _, rfl, rfl⟩ ?_
      rw [bI_1 c2]
      exact ⟨rfl, rfl, ⟨_, _, hM.obU (τ' := σ) zg4 (fun i h1 => (congrFun eg4 i).trans ((up_n h1).trans (rfl))) rfl rfl rfl rfl, hA⟩, FrM.of1 (fun i q => (congrFun eg4 i).trans ((up_n (by omega)).trans (rfl)))⟩
theorem q_isStopped2 {h : AH} {d bc bs n : Nat} {ρ : Nat → Nat → Int32} {τ : Nat → Int32} {σ : CS} {th : Int32} {a b : Bool} (hM : MM h ρ τ σ th) (hA : AG ρ τ σ) (hd : 1 ≤ d) : SM SR0 MX5_isStopped_ d bc bs [.ref 135, .int (bI a), .int (bI b)] h n (RP h n (some (.int (bI (a || b)))) σ (b3 a b false)) := by
  refine sm_of pn_OverwalksModel rfl (Nat.le_of_ble_eq_true rfl) ?_
  refine sw_aload_n (pc' := 1) rfl dX5_isStopped__0 rfl ?_
  refine sw_iload_n (pc' := 2) rfl dX5_isStopped__1 rfl ?_
  refine sw_iload_n (pc' := 3) rfl dX5_isStopped__2 rfl ?_
  refine sw_iconst (pc' := 4) (v := 0) rfl dX5_isStopped__3 (by decide +kernel) ?_
  refine sw_V (M' := MX5_isStopped) (d' := d - 1) (bc' := 0) (bs' := 0) (ci := 6) (as := [_, _, _]) dX5_isStopped__4 w_1174 ok_X5_isStopped (q_isStopped (a := a) (b := b) (c := false) hM hA) hM.ob rfl (by omega) (Nat.le_of_ble_eq_true rfl) (Nat.zero_le _) (Nat.zero_le _) (fun E h' n' _ z => rp_x z) (rp_k (fun p ρ' τ' pM pA pF => ?_))
  refine sw_ret (v := some _) ⟨dX5_isStopped__7, _, rfl, bI_i⟩ ?_
  exact ⟨by simp, rfl, ⟨_, _, pM, pA⟩, pF⟩
theorem q_isStopped1 {h : AH} {d bc bs n : Nat} {ρ : Nat → Nat → Int32} {τ : Nat → Int32} {σ : CS} {th : Int32} {a : Bool} (hM : MM h ρ τ σ th) (hA : AG ρ τ σ) (hd : 1 ≤ d) : SM SR0 MX5_isStopped__ d bc bs [.ref 135, .int (bI a)] h n (RP h n (some (.int (bI a))) σ (b3 a false false)) := by
  refine sm_of pn_OverwalksModel rfl (Nat.le_of_ble_eq_true rfl) ?_
  refine sw_aload_n (pc' := 1) rfl dX5_isStopped___0 rfl ?_
  refine sw_iload_n (pc' := 2) rfl dX5_isStopped___1 rfl ?_
  refine sw_iconst (pc' := 3) (v := 0) rfl dX5_isStopped___2 (by decide +kernel) ?_
  refine sw_iconst (pc' := 4) (v := 0) rfl dX5_isStopped___3 (by decide +kernel) ?_
  refine sw_V (M' := MX5_isStopped) (d' := d - 1) (bc' := 0) (bs' := 0) (ci := 6) (as := [_, _, _]) dX5_isStopped___4 w_1174 ok_X5_isStopped (q_isStopped (a := a) (b := false) (c := false) hM hA) hM.ob rfl (by omega) (Nat.le_of_ble_eq_true rfl) (Nat.zero_le _) (Nat.zero_le _) (fun E h' n' _ z => rp_x z) (rp_k (fun p ρ' τ' pM pA pF => ?_))
  refine sw_ret (v := some _) ⟨dX5_isStopped___7, _, rfl, bI_i⟩ ?_
  exact ⟨by simp, rfl, ⟨_, _, pM, pA⟩, pF⟩
theorem q_no {h : AH} {d bc bs n : Nat} {ρ : Nat → Nat → Int32} {τ : Nat → Int32} {σ : CS} {th : Int32} (hM : MM h ρ τ σ th) (hA : AG ρ τ σ) : SM SR0 MX5_no d bc bs [.ref 135] h n (RP h n (some (.int (-9))) (rfU σ) th) := by
  refine sm_of pn_OverwalksModel rfl (Nat.le_of_ble_eq_true rfl) ?_
  refine sw_aload_n (pc' := 1) rfl dX5_no_0 rfl ?_
  refine sw_dup (pc' := 2) rfl dX5_no_1 rfl ?_
  refine sw_getf (ci := 6) (k := 2) (pc' := 5) rfl dX5_no_2 (by decide +kernel) w_1115 hM.ob rfl ?_
  refine sw_iconst (pc' := 6) (v := 1) rfl dX5_no_5 (by decide +kernel) ?_
  refine sw_iadd (pc' := 7) rfl dX5_no_6 ?_
  refine sw_putf (ci := 6) (k := 2) (pc' := 10) rfl dX5_no_7 (by decide +kernel) (by decide +kernel) w_1115 rfl hM.ob (by decide +kernel) (Nat.le_of_ble_eq_true rfl) rfl rfl ?_
  refine sw_nm (fun g1 eg1 => ?_)
  have zg1 := (congrFun eg1 135).trans (up_s (h := h) (i := 135))
  refine sw_bipush (pc' := 12) (v := (-9)) rfl dX5_no_10 (by decide +kernel) ?_
  refine sw_ret (v := some _) ⟨dX5_no_12, _, rfl, rfl⟩ ?_
  exact ⟨rfl, rfl, ⟨_, _, hM.obU (τ' := rfU σ) zg1 (fun i h1 => (congrFun eg1 i).trans ((up_n h1).trans (rfl))) rfl rfl rfl rfl, hA⟩, FrM.of1 (fun i q => (congrFun eg1 i).trans ((up_n (by omega)).trans (rfl)))⟩
theorem q_noText {h : AH} {d bc bs n : Nat} {ρ : Nat → Nat → Int32} {τ : Nat → Int32} {σ : CS} {th : Int32} (hM : MM h ρ τ σ th) (hA : AG ρ τ σ) : SM SR0 MX5_noText d bc bs [.ref 135] h n (RP h n (some (.ref 40)) (rfU σ) th) := by
  refine sm_of pn_OverwalksModel rfl (Nat.le_of_ble_eq_true rfl) ?_
  refine sw_aload_n (pc' := 1) rfl dX5_noText_0 rfl ?_
  refine sw_dup (pc' := 2) rfl dX5_noText_1 rfl ?_
  refine sw_getf (ci := 6) (k := 2) (pc' := 5) rfl dX5_noText_2 (by decide +kernel) w_1115 hM.ob rfl ?_
  refine sw_iconst (pc' := 6) (v := 1) rfl dX5_noText_5 (by decide +kernel) ?_
  refine sw_iadd (pc' := 7) rfl dX5_noText_6 ?_
  refine sw_putf (ci := 6) (k := 2) (pc' := 10) rfl dX5_noText_7 (by decide +kernel) (by decide +kernel) w_1115 rfl hM.ob (by decide +kernel) (Nat.le_of_ble_eq_true rfl) rfl rfl ?_
  refine sw_nm (fun g1 eg1 => ?_)
  have zg1 := (congrFun eg1 135).trans (up_s (h := h) (i := 135))
  refine sw_ldcS (pc' := 12) rfl dX5_noText_10 (SRm 20 rfl) (by decide +kernel) ?_
  refine sw_ret (v := some _) ⟨dX5_noText_12, _, rfl, Or.inl ⟨_, rfl⟩⟩ ?_
  exact ⟨rfl, rfl, ⟨_, _, hM.obU (τ' := rfU σ) zg1 (fun i h1 => (congrFun eg1 i).trans ((up_n h1).trans (rfl))) rfl rfl rfl rfl, hA⟩, FrM.of1 (fun i q => (congrFun eg1 i).trans ((up_n (by omega)).trans (rfl)))⟩
theorem q_knock {h : AH} {d bc bs n : Nat} {ρ : Nat → Nat → Int32} {τ : Nat → Int32} {σ : CS} {th : Int32} (hM : MM h ρ τ σ th) (hA : AG ρ τ σ) : SM SR0 MX5_knock d bc bs [.ref 135] h n (RP h n (some (.int (σ.2.2.2.2.2.2 + 1))) (knU σ) 0) := by
  refine sm_of pn_OverwalksModel rfl (Nat.le_of_ble_eq_true rfl) ?_
  refine sw_aload_n (pc' := 1) rfl dX5_knock_0 rfl ?_
  refine sw_iconst (pc' := 2) (v := 0) rfl dX5_knock_1 (by decide +kernel) ?_
  refine sw_putf (ci := 6) (k := 0) (pc' := 5) rfl dX5_knock_2 (by decide +kernel) (by decide +kernel) w_1113 rfl hM.ob (by decide +kernel) (Nat.le_of_ble_eq_true rfl) rfl rfl ?_
  refine sw_nm (fun g1 eg1 => ?_)
  have zg1 := (congrFun eg1 135).trans (up_s (h := h) (i := 135))
  refine sw_aload_n (pc' := 6) rfl dX5_knock_5 rfl ?_
  refine sw_dup (pc' := 7) rfl dX5_knock_6 rfl ?_
  refine sw_getf (ci := 6) (k := 1) (pc' := 10) rfl dX5_knock_7 (by decide +kernel) w_1114 zg1 rfl ?_
  refine sw_iconst (pc' := 11) (v := 1) rfl dX5_knock_10 (by decide +kernel) ?_
  refine sw_iadd (pc' := 12) rfl dX5_knock_11 ?_
  refine sw_putf (ci := 6) (k := 1) (pc' := 15) rfl dX5_knock_12 (by decide +kernel) (by decide +kernel) w_1114 rfl zg1 (by decide +kernel) (Nat.le_of_ble_eq_true rfl) rfl rfl ?_
  refine sw_nm (fun g2 eg2 => ?_)
  have zg2 := (congrFun eg2 135).trans (up_s (h := g1) (i := 135))
  refine sw_aload_n (pc' := 16) rfl dX5_knock_15 rfl ?_
  refine sw_getf (ci := 6) (k := 1) (pc' := 19) rfl dX5_knock_16 (by decide +kernel) w_1114 zg2 rfl ?_
  refine sw_ret (v := some _) ⟨dX5_knock_19, _, rfl, rfl⟩ ?_
  exact ⟨rfl, rfl, ⟨_, _, hM.obU (τ' := knU σ) zg2 (fun i h1 => (congrFun eg2 i).trans ((up_n h1).trans ((congrFun eg1 i).trans ((up_n h1).trans (rfl))))) rfl rfl rfl rfl, hA⟩, FrM.of1 (fun i q => (congrFun eg2 i).trans ((up_n (by omega)).trans ((congrFun eg1 i).trans ((up_n (by omega)).trans (rfl)))))⟩
theorem q_isSound {h : AH} {d bc bs n : Nat} {ρ : Nat → Nat → Int32} {τ : Nat → Int32} {σ : CS} {th : Int32} (hM : MM h ρ τ σ th) (hA : AG ρ τ σ) : SM SR0 MX5_isSound d bc bs [.ref 135] h n (RP h n (some (.int 1)) σ 0) := by
  refine sm_of pn_OverwalksModel rfl (Nat.le_of_ble_eq_true rfl) ?_
  refine sw_aload_n (pc' := 1) rfl dX5_isSound_0 rfl ?_
  refine sw_iconst (pc' := 2) (v := 0) rfl dX5_isSound_1 (by decide +kernel) ?_
  refine sw_putf (ci := 6) (k := 0) (pc' := 5) rfl dX5_isSound_2 (by decide +kernel) (by decide +kernel) w_1113 rfl hM.ob (by decide +kernel) (Nat.le_of_ble_eq_true rfl) rfl rfl ?_
  refine sw_nm (fun g1 eg1 => ?_)
  have zg1 := (congrFun eg1 135).trans (up_s (h := h) (i := 135))
  refine sw_iconst (pc' := 6) (v := 1) rfl dX5_isSound_5 (by decide +kernel) ?_
  refine sw_ret (v := some _) ⟨dX5_isSound_6, _, rfl, rfl⟩ ?_
  exact ⟨rfl, rfl, ⟨_, _, hM.obU (τ' := σ) zg1 (fun i h1 => (congrFun eg1 i).trans ((up_n h1).trans (rfl))) rfl rfl rfl rfl, hA⟩, FrM.of1 (fun i q => (congrFun eg1 i).trans ((up_n (by omega)).trans (rfl)))⟩
theorem q_thrown {h : AH} {d bc bs n : Nat} {ρ : Nat → Nat → Int32} {τ : Nat → Int32} {σ : CS} {th : Int32} (hM : MM h ρ τ σ th) : SM SR0 MX5_thrown d bc bs [.ref 135] h n (Det (rI th) h n) := by
  refine sm_of pn_OverwalksModel rfl (Nat.le_of_ble_eq_true rfl) ?_
  refine sw_aload_n (pc' := 1) rfl dX5_thrown_0 rfl ?_
  refine sw_getf (ci := 6) (k := 0) (pc' := 4) rfl dX5_thrown_1 (by decide +kernel) w_1113 hM.ob rfl ?_
  refine sw_ret (v := some _) ⟨dX5_thrown_4, _, rfl, rfl⟩ ?_
  exact ⟨rfl, rfl, rfl⟩
