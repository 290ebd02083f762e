/-! rows of things: rising, each once, what a place more or less makes of them -/
def srt (f : Nat → Int32) (c : Nat) : Prop := ∀ i j, i < j → j < c → f i < f j
def eis (f : Nat → Int32) (c : Nat) : Prop := ∀ i j, i < j → j < c → f i ≠ f j
theorem fpN_none {f : Nat → Int32} {x : Int32} {m : Nat} : ∀ {j : Nat}, fpN f x j m = none ↔ ∀ i, j ≤ i → i < j + m → f i ≠ x := by
  induction m with
  | zero => intro j; exact ⟨fun _ i h1 h2 => absurd h2 (by omega), fun _ => rfl⟩
  | succ m ih =>
    intro j
    unfold fpN
    by_cases e : f j = x
    · rw [if_pos e]
      exact ⟨(fun q => by cases q), fun q => absurd e (q j (Nat.le_refl _) (by omega))⟩
    · rw [if_neg e, ih]
      refine ⟨fun q i h1 h2 => ?_, fun q i h1 h2 => q i (by omega) (by omega)⟩
      by_cases g : i = j
      · rw [g]; exact e
      · exact q i (by omega) (by omega)
theorem fpN_isS {f : Nat → Int32} {x : Int32} {c : Nat} (h : (fpN f x 0 c).isSome = false) : ∀ i, i < c → f i ≠ x := by
  have : fpN f x 0 c = none := by
    cases e : fpN f x 0 c with
    | none => rfl
    | some j => rw [e] at h; cases h
  exact fun i hi => fpN_none.mp this i (Nat.zero_le _) (by omega)
theorem fpN_first {f : Nat → Int32} {x : Int32} {m : Nat} : ∀ {j i : Nat}, fpN f x j m = some i → ∀ q, j ≤ q → q < i → f q ≠ x := by
  induction m with
  | zero => intro j i h; cases h
  | succ m ih =>
    intro j i h
    unfold fpN at h
    by_cases e : f j = x
    · rw [if_pos e] at h; cases h; exact fun q h1 h2 => absurd h2 (by omega)
    · rw [if_neg e] at h
      intro q h1 h2
      by_cases g : q = j
      · rw [g]; exact e
      · exact ih h q (by omega) h2
theorem fpN_eq {f : Nat → Int32} {x : Int32} {m : Nat} : ∀ {j i : Nat}, j ≤ i → i < j + m → f i = x → (∀ q, j ≤ q → q < i → f q ≠ x) → fpN f x j m = some i := by
  induction m with
  | zero => intro j i h1 h2; omega
  | succ m ih =>
    intro j i h1 h2 h3 h4
    unfold fpN
    by_cases e : j = i
    · subst e; rw [if_pos h3]
    · rw [if_neg (h4 j (Nat.le_refl _) (by omega))]
      exact ih (by omega) (by omega) h3 (fun q g1 g2 => h4 q (by omega) g2)
theorem fpN_cg {f g : Nat → Int32} {x : Int32} {m : Nat} : ∀ {j : Nat}, (∀ i, j ≤ i → i < j + m → f i = g i) → fpN f x j m = fpN g x j m := by
  induction m with
  | zero => intro j _; rfl
  | succ m ih =>
    intro j h
    unfold fpN
    rw [h j (Nat.le_refl _) (by omega), ih (fun i h1 h2 => h i (by omega) (by omega))]
theorem coN_cg {f g : Nat → Int32} {x : Int32} {m : Nat} : ∀ {j : Nat}, (∀ i, j ≤ i → i < j + m → f i = g i) → coN f x j m = coN g x j m := by
  induction m with
  | zero => intro j _; rfl
  | succ m ih =>
    intro j h
    unfold coN
    rw [h j (Nat.le_refl _) (by omega), ih (fun i h1 h2 => h i (by omega) (by omega))]
theorem rpN_eq {f : Nat → Int32} {x : Int32} {p : Nat} {m : Nat} : ∀ {j : Nat}, j ≤ p → p ≤ j + m → (∀ i, j ≤ i → i < p → f i < x) → (∀ i, p ≤ i → i < j + m → ¬ f i < x) → rpN f x j m = p := by
  induction m with
  | zero => intro j h1 h2 _ _; unfold rpN; omega
  | succ m ih =>
    intro j h1 h2 h3 h4
    unfold rpN
    by_cases e : j = p
    · subst e; rw [if_neg (h4 j (Nat.le_refl _) (by omega))]
    · rw [if_pos (h3 j (Nat.le_refl _) (by omega))]
      exact ih (by omega) (by omega) (fun i g1 g2 => h3 i (by omega) g2) (fun i g1 g2 => h4 i g1 (by omega))
/-- what lies ahead of the rising place is less; if it rises, what lies behind is not -/
theorem rpN_lt {f : Nat → Int32} {x : Int32} {m : Nat} : ∀ {j : Nat}, ∀ i, j ≤ i → i < rpN f x j m → f i < x := by
  induction m with
  | zero => intro j i h1 h2; unfold rpN at h2; omega
  | succ m ih =>
    intro j i h1 h2
    unfold rpN at h2
    by_cases e : f j < x
    · rw [if_pos e] at h2
      by_cases g : i = j
      · rw [g]; exact e
      · exact ih i (by omega) h2
    · rw [if_neg e] at h2; omega
theorem rpN_at_ge {f : Nat → Int32} {x : Int32} {m : Nat} : ∀ {j : Nat}, rpN f x j m < j + m → ¬ f (rpN f x j m) < x := by
  induction m with
  | zero => intro j h; unfold rpN at h; omega
  | succ m ih =>
    intro j h
    unfold rpN at h ⊢
    by_cases e : f j < x
    · rw [if_pos e] at h ⊢
      exact ih (by omega)
    · rw [if_neg e]; exact e
theorem rpN_ge {f : Nat → Int32} {x : Int32} {c : Nat} (hs : srt f c) (hx : ∀ i, i < c → f i ≠ x) : ∀ i, rpN f x 0 c ≤ i → i < c → x < f i := by
  intro i h1 h2
  have h0 : ¬ f (rpN f x 0 c) < x := rpN_at_ge (by omega)
  have h3 : x < f (rpN f x 0 c) := Int32.lt_of_le_of_ne (Int32.not_lt.mp h0) (fun e => hx _ (by omega) e.symm)
  by_cases e : i = rpN f x 0 c
  · rw [e]; exact h3
  · exact Int32.lt_trans h3 (hs _ _ (by omega) h2)
theorem laN_lt {f : Nat → Int32} {p c i : Nat} {x : Int32} (h : i < p) : laN f p x c i = f i := by
  unfold laN
  rw [up_n (by omega)]
  unfold mvN
  rw [if_neg (by omega)]
theorem laN_p {f : Nat → Int32} {p c : Nat} {x : Int32} : laN f p x c p = x := up_s
theorem laN_gt {f : Nat → Int32} {p c i : Nat} {x : Int32} (h : p < i) (h2 : i ≤ c) : laN f p x c i = f (i - 1) := by
  unfold laN
  rw [up_n (by omega)]
  unfold mvN
  rw [if_pos ⟨h, h2⟩]
/-- each place of a row with one more: one of the old, or the new one -/
theorem laN_cs {f : Nat → Int32} {p c : Nat} {x : Int32} {Q : Int32 → Prop} (hp : p ≤ c) (hx : Q x) (hf : ∀ j, j < c → Q (f j)) : ∀ j, j < c + 1 → Q (laN f p x c j) := by
  intro j hj
  by_cases e : j < p
  · rw [laN_lt e]; exact hf j (by omega)
  · by_cases g : j = p
    · rw [g, laN_p]; exact hx
    · rw [laN_gt (by omega) (by omega)]; exact hf _ (by omega)
theorem liN_cs {f : Nat → Int32} {p c : Nat} {Q : Int32 → Prop} (hf : ∀ j, j < c + 1 → Q (f j)) : ∀ j, j < c → Q (liN f p c j) := by
  intro j hj
  unfold liN
  split
  · exact hf _ (by omega)
  · exact hf _ (by omega)
theorem srt_la {f : Nat → Int32} {p c : Nat} {x : Int32} (hs : srt f c) (hp : p ≤ c) (h1 : ∀ i, i < p → f i < x) (h2 : ∀ i, p ≤ i → i < c → x < f i) : srt (laN f p x c) (c + 1) := by
  intro i j hij hj
  by_cases a : j < p
  · rw [laN_lt a, laN_lt (by omega)]
    exact hs _ _ hij (by omega)
  · by_cases b : j = p
    · rw [b, laN_p, laN_lt (by omega)]
      exact h1 i (by omega)
    · rw [laN_gt (p := p) (i := j) (by omega) (by omega)]
      by_cases a2 : i < p
      · rw [laN_lt a2]
        exact Int32.lt_trans (h1 i a2) (h2 _ (by omega) (by omega))
      · by_cases b2 : i = p
        · rw [b2, laN_p]
          exact h2 _ (by omega) (by omega)
        · rw [laN_gt (p := p) (i := i) (by omega) (by omega)]
          exact hs _ _ (by omega) (by omega)
theorem eis_la {f : Nat → Int32} {p c : Nat} {x : Int32} (hs : eis f c) (hp : p ≤ c) (h1 : ∀ i, i < c → f i ≠ x) : eis (laN f p x c) (c + 1) := by
  intro i j hij hj
  by_cases a : j < p
  · rw [laN_lt a, laN_lt (by omega)]
    exact hs _ _ hij (by omega)
  · by_cases b : j = p
    · rw [b, laN_p, laN_lt (by omega)]
      exact h1 i (by omega)
    · rw [laN_gt (p := p) (i := j) (by omega) (by omega)]
      by_cases a2 : i < p
      · rw [laN_lt a2]
        exact hs _ _ (by omega) (by omega)
      · by_cases b2 : i = p
        · rw [b2, laN_p]
          exact fun e => h1 _ (by omega) e.symm
        · rw [laN_gt (p := p) (i := i) (by omega) (by omega)]
          exact hs _ _ (by omega) (by omega)
theorem liN_ix {f : Nat → Int32} {p c i : Nat} (h : i < c) : liN f p c i = f (if p ≤ i then i + 1 else i) := by
  unfold liN
  by_cases e : p ≤ i
  · rw [if_pos ⟨e, h⟩, if_pos e]
  · rw [if_neg (fun q => e q.1), if_neg e]
theorem srt_li {f : Nat → Int32} {p c : Nat} (hs : srt f (c + 1)) : srt (liN f p c) c := by
  intro i j hij hj
  rw [liN_ix hj, liN_ix (by omega)]
  refine hs _ _ ?_ ?_
  · split <;> split <;> omega
  · split <;> omega
theorem eis_li {f : Nat → Int32} {p c : Nat} (hs : eis f (c + 1)) : eis (liN f p c) c := by
  intro i j hij hj
  rw [liN_ix hj, liN_ix (by omega)]
  refine hs _ _ ?_ ?_
  · split <;> split <;> omega
  · split <;> omega
theorem srt_cg {f g : Nat → Int32} {c : Nat} (h : ∀ j, j < c → g j = f j) (hs : srt f c) : srt g c := fun i j h1 h2 => by rw [h i (by omega), h j h2]; exact hs i j h1 h2
theorem srt_riB {f : Nat → Int32} {m : Nat} : ∀ {j : Nat}, 1 ≤ j → srt f (j + m) → riB f j m = true := by
  induction m with
  | zero => intro j _ _; rfl
  | succ m ih =>
    intro j hj h
    unfold riB
    rw [decide_eq_true (h (j - 1) j (by omega) (by omega)), Bool.true_and]
    exact ih (by omega) (by rw [show j + 1 + m = j + (m + 1) by omega]; exact h)
theorem eis_eoB {f : Nat → Int32} {c : Nat} (h : eis f c) {m : Nat} : ∀ {j : Nat}, j + m ≤ c → eoB f c j m = true := by
  induction m with
  | zero => intro j _; rfl
  | succ m ih =>
    intro j hj
    unfold eoB
    rw [decide_eq_true (fpN_eq (f := f) (x := f j) (j := 0) (m := c) (i := j) (Nat.zero_le _) (by omega) rfl (fun q _ g => h q j g (by omega))), Bool.true_and]
    exact ih (by omega)
theorem srt_riB0 {f : Nat → Int32} {c : Nat} (h : srt f c) : riB f 1 (c - 1) = true := by
  by_cases e : c = 0
  · subst e; rfl
  · exact srt_riB (Nat.le_refl _) (by rw [show 1 + (c - 1) = c by omega]; exact h)
/-- PUT keeps what rises rising, and each once -/
theorem ldU_srt {σ : CS} {k : Nat} {x : Int32} (hk : k = 3) (hs : srt (σ.1 k) (σ.2.1 k)) : srt ((ldU σ k x).1 k) ((ldU σ k x).2.1 k) := by
  subst hk
  unfold ldU
  by_cases e : ldY (σ.1 3) (σ.2.1 3) (kdO 3) x = true
  · rw [if_pos e]
    show srt (up σ.1 3 _ 3) (up σ.2.1 3 _ 3)
    rw [up_s, up_s]
    have e1 : ldP (σ.1 3) (σ.2.1 3) (kdO 3) x = rpN (σ.1 3) x 0 (σ.2.1 3) := rfl
    have e2 : (fpN (σ.1 3) x 0 (σ.2.1 3)).isSome = false := by
      cases g : (fpN (σ.1 3) x 0 (σ.2.1 3)).isSome with
      | false => rfl
      | true => exact absurd e (by rw [ldY, g]; decide)
    rw [e1]
    exact srt_la hs (by have := @rpN_at (σ.1 3) x (σ.2.1 3) 0; omega) (fun i hi => rpN_lt i (Nat.zero_le _) hi) (rpN_ge hs (fpN_isS e2))
  · rw [if_neg e]
    exact hs
theorem ldU_o {σ : CS} {k j : Nat} {x : Int32} (h : j ≠ k) : (ldU σ k x).1 j = σ.1 j ∧ (ldU σ k x).2.1 j = σ.2.1 j ∧ (ldU σ k x).2.2.1 j = σ.2.2.1 j := by
  unfold ldU
  split
  · exact ⟨up_n h, up_n h, up_n h⟩
  · exact ⟨rfl, rfl, rfl⟩
/-- m things of g are PUT on SHELF k, from the j-th on -/
def caM (k : Nat) (g : Nat → Int32) : Nat → Nat → Bool → CS → Bool × CS
  | _, 0, w, σ => (w, σ)
  | j, m + 1, w, σ => caM k g (j + 1) m (w || ldY (σ.1 k) (σ.2.1 k) (kdO k) (g j)) (ldU σ k (g j))
theorem caM_cg {k : Nat} {f g : Nat → Int32} {m : Nat} : ∀ {j : Nat} {w : Bool} {σ : CS}, (∀ i, j ≤ i → i < j + m → f i = g i) → caM k f j m w σ = caM k g j m w σ := by
  induction m with
  | zero => intro j w σ _; rfl
  | succ m ih =>
    intro j w σ h
    unfold caM
    rw [h j (Nat.le_refl _) (by omega)]
    exact ih (fun i h1 h2 => h i (by omega) (by omega))
theorem caM_pa {k : Nat} {a b c e : Int32} {m : Nat} : ∀ {j : Nat} {w : Bool} {σ : CS}, paM k a b c e j m w σ = caM k (fun i => o4 (nI i) a b c e) j m w σ := by
  induction m with
  | zero => intro j w σ; rfl
  | succ m ih => intro j w σ; unfold paM caM; exact ih
theorem ldU_c2 {σ : CS} {k : Nat} {x : Int32} : (ldU σ k x).2.1 k ≤ σ.2.1 k + 1 := by
  unfold ldU
  split
  · show up σ.2.1 k _ k ≤ _
    rw [up_s]
    omega
  · omega
theorem bI_or {a b : Bool} : bI a ||| bI b = bI (a || b) := by cases a <;> cases b <;> decide
theorem bI_and {a b : Bool} : bI a &&& bI b = bI (a && b) := by cases a <;> cases b <;> decide
