/-! StringBuilder and String: their letters -/
theorem shr0 (x : Int32) : x >>> ((0 : Int32) &&& 31) = x := by rw [show (0 : Int32) &&& 31 = 0 by decide +kernel]; exact Int32.shiftRight_zero
theorem shl0 (x : Int32) : x <<< ((0 : Int32) &&& 31) = x := by rw [show (0 : Int32) &&& 31 = 0 by decide +kernel]; exact Int32.shiftLeft_zero
theorem maxN {a b : Nat} (ha : a < 2 ^ 31) (hb : b < 2 ^ 31) : maxI (nI a) (nI b) = nI (if a < b then b else a) := by
  unfold maxI
  by_cases q : a < b
  · rw [if_pos q, if_pos (nI_lt q hb)]
  · rw [if_neg q, if_neg (nI_nlt (by omega) ha)]
theorem minN {a b : Nat} (h : a ≤ b) (hb : b < 2 ^ 31) : minI (nI a) (nI b) = nI a := by
  unfold minI
  rw [if_neg (nI_nlt h hb)]
theorem minN2 {a b : Nat} (h : b ≤ a) (ha : a < 2 ^ 31) : minI (nI a) (nI b) = nI b := by
  unfold minI
  by_cases q : b < a
  · rw [if_pos (nI_lt q ha)]
  · rw [if_neg (nI_nlt (by omega) (by omega)), show a = b by omega]
theorem bfit0 : bfit (fun _ => 0) := fun _ => rfl
theorem bfit_cpy {f g : Nat → Int32} {s d n : Nat} (hf : bfit f) (hg : bfit g) : bfit (va_cpy f g s d n) := fun i => by
  unfold va_cpy
  split
  · exact hf _
  · exact hg _
theorem bfit_up {f : Nat → Int32} {i : Nat} {y : Int32} (hf : bfit f) : bfit (up f i (vp_nar .byte y)) := fun j => by
  unfold up
  split
  · rw [vp_nar_byte]; exact pk_fb y
  · exact hf j
/-- the first N letters are c -/
def Ct (f : Nat → Int32) (N : Nat) (c : List Int32) : Prop := (List.range N).map f = c
section
variable {f g : Nat → Int32} {N L E : Nat} {c e : List Int32} {x y x' y' : Int32}
theorem Ct.len (h : Ct f N c) : c.length = N := by
  rw [← h, List.length_map, List.length_range]
theorem Ct.ext (h : Ct f N c) (q : ∀ i, i < N → g i = f i) : Ct g N c := by
  unfold Ct
  rw [← h]
  exact List.map_congr_left (fun i hi => q i (List.mem_range.mp hi))
theorem Ct.eqs (h : Ct f N c) (k : Ct g N c) : ∀ i, i < N → f i = g i := by
  intro i hi
  have q : (List.range N).map f = (List.range N).map g := h.trans k.symm
  have q2 := congrArg (fun l => l[i]?) q
  simp only [List.getElem?_map, List.getElem?_range hi, Option.map_some] at q2
  exact Option.some.inj q2
theorem Ct.up' (h : Ct f N c) (q : x = y) : Ct (up f N x) (N + 1) (c ++ [y]) := by
  subst q
  have h1 : (List.range N).map (up f N x) = c := Ct.ext h (fun i hi => up_n (by omega))
  unfold Ct
  rw [List.range_succ, List.map_append, List.map_singleton, up_s, h1]
theorem Ct.cpy (h : Ct g N c) (k : Ct f L e) : Ct (va_cpy f g 0 N L) (N + L) (c ++ e) := by
  have h1 : (List.range N).map (va_cpy f g 0 N L) = c := Ct.ext h (fun i hi => if_neg (by omega))
  unfold Ct
  rw [List.range_add, List.map_append, List.map_map, h1]
  refine congrArg (fun z => c ++ z) ?_
  rw [← k]
  refine List.map_congr_left (fun i hi => ?_)
  have hi2 := List.mem_range.mp hi
  show (if N ≤ N + i ∧ N + i < N + L then f (0 + (N + i - N)) else g (N + i)) = f i
  rw [if_pos ⟨Nat.le_add_right _ _, by omega⟩]
  exact congrArg f (by omega)
theorem cpy0 {m i : Nat} (h : i < m) : va_cpy f g 0 0 m i = f i := by
  unfold va_cpy
  rw [if_pos ⟨Nat.zero_le _, by omega⟩]
  exact congrArg f (by omega)
end
theorem vpd : ∀ d, d < 10 → vp_nar .byte (nI (48 + d)) = nI (48 + d) := by decide +kernel
/-- the letters of a number of two digits at most -/
def dgL (k : Nat) : List Int32 := if k < 10 then [nI (48 + k)] else [nI (48 + k / 10), nI (48 + k % 10)]
theorem ct_d1 {f : Nat → Int32} {N E k : Nat} {c : List Int32} {x : Int32} (hk : k < 10) (h : Ct f N c) (q : E = N + 1) (q1 : x = nI (48 + k % 10)) : Ct (up f (E - 1) (vp_nar .byte x)) E (c ++ dgL k) := by
  subst q q1
  rw [show dgL k = [nI (48 + k)] from if_pos hk]
  have e : k % 10 = k := Nat.mod_eq_of_lt hk
  exact Ct.up' h (by rw [e]; exact vpd k hk)
theorem ct_d2 {f : Nat → Int32} {N E k : Nat} {c : List Int32} {x y : Int32} (hk : ¬ k < 10) (hk2 : k < 100) (h : Ct f N c) (q : E = N + 2) (q1 : x = nI (48 + k % 10)) (q2 : y = nI (48 + k / 10)) : Ct (up (up f (E - 1) (vp_nar .byte x)) (E - 1 - 1) (vp_nar .byte y)) E (c ++ dgL k) := by
  subst q q1 q2
  rw [show dgL k = [nI (48 + k / 10), nI (48 + k % 10)] from if_neg hk]
  have h1 := Ct.up' (Ct.up' h (vpd (k / 10) (by omega))) (vpd (k % 10) (by omega))
  rw [List.append_assoc] at h1
  refine Ct.ext h1 (fun i hi => ?_)
  show up (up f (N + 1) _) N _ i = up (up f N _) (N + 1) _ i
  by_cases q : i = N
  · rw [q, up_s, up_n (by omega), up_s]
  · rw [up_n q]
    by_cases q2 : i = N + 1
    · rw [q2, up_s, up_s]
    · rw [up_n q2, up_n q2, up_n q]
/-- at b a StringBuilder of the N letters c, room for m exactly; it and its bytes lie from n0 on, below n -/
def SbF (h : AH) (n n0 b N m : Nat) (c : List Int32) : Prop := ∃ (a : Nat) (f : Nat → Int32) (fl : Int32), h b = .inr (1, [.ref a, .int 0, .int fl, .int (nI N)]) ∧ h a = .inl (2, m, .inl f) ∧ bfit f ∧ N ≤ m ∧ n0 ≤ a ∧ a < n ∧ n0 ≤ b ∧ b < n ∧ b ≠ a ∧ Ct f N c
theorem SbF.fr {h h' : AH} {n n' n0 b N m : Nat} {c : List Int32} (hS : SbF h n n0 b N m c) (hF : ∀ i, i < n → h' i = h i) (hn : n ≤ n') : SbF h' n' n0 b N m c := by
  obtain ⟨a, f, fl, h1, h2, h3, h4, h7, h8, h9, h10, h11⟩ := hS
  exact ⟨a, f, fl, (hF b h10).trans h1, (hF a h8).trans h2, h3, h4, h7, by omega, h9, by omega, h11⟩
theorem SbF.lt {h : AH} {n n0 b N m : Nat} {c : List Int32} (hS : SbF h n n0 b N m c) : n0 ≤ b ∧ b < n := by
  obtain ⟨a, f, fl, h1, h2, h3, h4, h7, h8, h9, h10, h11⟩ := hS
  exact ⟨h9, h10⟩
theorem SbF.rm {h : AH} {n n0 b N m : Nat} {c : List Int32} (hS : SbF h n n0 b N m c) : N ≤ m := by
  obtain ⟨a, f, fl, h1, h2, h3, h4, -⟩ := hS
  exact h4
/-- the room that it grows to; what growing costs -/
def capG (q m : Nat) : Nat := m + (if q - m < m + 2 then m + 2 else q - m)
def capN (m q : Nat) : Nat := if q ≤ m then m else capG q m
def grC (m q : Nat) : Nat := if q ≤ m then 0 else capG q m
/-- growing is paid for by the room that is still wanting -/
theorem pot {m q K : Nat} (hm : m ≤ K) (hq : 2 * q ≤ K) : grC m q + 2 * (K - capN m q) ≤ 2 * (K - m) ∧ capN m q ≤ K ∧ q ≤ capN m q ∧ m ≤ capN m q := by
  unfold grC capN capG
  split
  · omega
  · split <;> omega
theorem capN_s {m q : Nat} (h : q ≤ m) : capN m q = m := if_pos h
theorem grC_s {m q : Nat} (h : q ≤ m) : grC m q = 0 := if_pos h
/-- at t a String of the L letters c -/
def StF (h : AH) (n t L : Nat) (c : List Int32) : Prop := ∃ (v : Nat) (f : Nat → Int32) (r : List Value), h t = .inr (0, .ref v :: .int 0 :: r) ∧ h v = .inl (2, L, .inl f) ∧ bfit f ∧ t < n ∧ v < n ∧ Ct f L c
theorem StF.fr {h h' : AH} {n n' t L : Nat} {c : List Int32} (hS : StF h n t L c) (hF : ∀ i, i < n → h' i = h i) (hn : n ≤ n') : StF h' n' t L c := by
  obtain ⟨v, f, r, h1, h2, h3, h4, h5, h6⟩ := hS
  exact ⟨v, f, r, (hF t h4).trans h1, (hF v h5).trans h2, h3, by omega, by omega, h6⟩
/-- the same, where it may have grown -/
def SbE (h : AH) (n' n n1 n0 b N m : Nat) (c : List Int32) : Prop := ∃ (a : Nat) (f : Nat → Int32) (fl : Int32), h b = .inr (1, [.ref a, .int 0, .int fl, .int (nI N)]) ∧ h a = .inl (2, m, .inl f) ∧ bfit f ∧ N ≤ m ∧ n0 ≤ a ∧ a < n' ∧ n0 ≤ b ∧ b < n' ∧ b ≠ a ∧ (a < n1 ∨ n ≤ a) ∧ Ct f N c
def SEo (h : AH) (n n1 n0 b N m : Nat) (c : List Int32) (r : Option Value) : ARes → AH → Nat → Prop := fun r' h' n' => r' = .inl r ∧ n ≤ n' ∧ SbE h' n' n n1 n0 b N m c ∧ ∀ i, i < n0 ∨ n1 ≤ i ∧ i < n → h' i = h i
theorem seo_k {A : Nat → AH → Option Value → Prop} {h : AH} {n n1 n0 b N m z : Nat} {c : List Int32} {r : Option Value} (k : ∀ h' n', n ≤ n' → SbE h' n' n n1 n0 b N m c → (∀ i, i < n0 ∨ n1 ≤ i ∧ i < n → h' i = h i) → A n' h' r) : ∀ (v : Option Value) (h' : AH) (n' : Nat), z ≤ n' → SEo h n n1 n0 b N m c r (.inl v) h' n' → A n' h' v := by
  rintro v h' n' - ⟨e, g1, g2, g3⟩
  cases e
  exact k h' n' g1 g2 g3
theorem seo_x {A : Prop} {h : AH} {n n1 n0 b N m : Nat} {c : List Int32} {r : Option Value} {E : String} {h' : AH} {n' : Nat} (z : SEo h n n1 n0 b N m c r (.inr E) h' n') : A := by cases z.1
def SBo (h : AH) (n n1 n0 b N m : Nat) (c : List Int32) (r : Option Value) : ARes → AH → Nat → Prop := fun r' h' n' => r' = .inl r ∧ n ≤ n' ∧ SbF h' n' n0 b N m c ∧ ∀ i, i < n0 ∨ n1 ≤ i ∧ i < n → h' i = h i
theorem sbo_k {A : Nat → AH → Option Value → Prop} {h : AH} {n n1 n0 b N m z : Nat} {c : List Int32} {r : Option Value} (k : ∀ h' n', n ≤ n' → SbF h' n' n0 b N m c → (∀ i, i < n0 ∨ n1 ≤ i ∧ i < n → h' i = h i) → A n' h' r) : ∀ (v : Option Value) (h' : AH) (n' : Nat), z ≤ n' → SBo h n n1 n0 b N m c r (.inl v) h' n' → A n' h' v := by
  rintro v h' n' - ⟨e, g1, g2, g3⟩
  cases e
  exact k h' n' g1 g2 g3
theorem sbo_x {A : Prop} {h : AH} {n n1 n0 b N m : Nat} {c : List Int32} {r : Option Value} {E : String} {h' : AH} {n' : Nat} (z : SBo h n n1 n0 b N m c r (.inr E) h' n') : A := by cases z.1
/-- a String that was made behind n, or is a constant -/
def StN (h : AH) (n' n t L : Nat) (c : List Int32) : Prop := ∃ (v : Nat) (f : Nat → Int32) (r : List Value), h t = .inr (0, .ref v :: .int 0 :: r) ∧ h v = .inl (2, L, .inl f) ∧ bfit f ∧ (t < 100 ∨ n ≤ t) ∧ t < n' ∧ (v < 100 ∨ n ≤ v) ∧ v < n' ∧ Ct f L c
/-- a String that no growing StringBuilder touches -/
def StK (h : AH) (n n1 n0 t L : Nat) (c : List Int32) : Prop := ∃ (v : Nat) (f : Nat → Int32) (r : List Value), h t = .inr (0, .ref v :: .int 0 :: r) ∧ h v = .inl (2, L, .inl f) ∧ bfit f ∧ (t < n0 ∨ n1 ≤ t ∧ t < n) ∧ (v < n0 ∨ n1 ≤ v ∧ v < n) ∧ Ct f L c
theorem StN.st {h : AH} {n' n t L : Nat} {c : List Int32} (hS : StN h n' n t L c) : StF h n' t L c := by
  obtain ⟨v, f, r, h1, h2, h3, h4, h5, h6, h7, h8⟩ := hS
  exact ⟨v, f, r, h1, h2, h3, h5, h7, h8⟩
theorem StN.k {h : AH} {n n1 n0 t L : Nat} {c : List Int32} (hS : StN h n n1 t L c) (h0 : 100 ≤ n0) : StK h n n1 n0 t L c := by
  obtain ⟨v, f, r, h1, h2, h3, h4, h5, h6, h7, h8⟩ := hS
  exact ⟨v, f, r, h1, h2, h3, by omega, by omega, h8⟩
theorem StF.k {h : AH} {n n1 n0 t L : Nat} {c : List Int32} (hS : StF h n0 t L c) : StK h n n1 n0 t L c := by
  obtain ⟨v, f, r, h1, h2, h3, h4, h5, h6⟩ := hS
  exact ⟨v, f, r, h1, h2, h3, Or.inl h4, Or.inl h5, h6⟩
theorem StF.n {h : AH} {n n' t L : Nat} {c : List Int32} (hS : StF h 100 t L c) (hn : 100 ≤ n') : StN h n' n t L c := by
  obtain ⟨v, f, r, h1, h2, h3, h4, h5, h6⟩ := hS
  exact ⟨v, f, r, h1, h2, h3, Or.inl h4, by omega, Or.inl h5, by omega, h6⟩
/-- a new String -/
def SPo (h : AH) (n L : Nat) (c : List Int32) : ARes → AH → Nat → Prop := fun r' h' n' => n ≤ n' ∧ ∃ t, r' = .inl (some (.ref t)) ∧ StN h' n' n t L c ∧ ∀ i, i < n → h' i = h i
theorem spo_k {A : Nat → AH → Option Value → Prop} {h : AH} {n L m : Nat} {c : List Int32} (k : ∀ h' n' t, n ≤ n' → StN h' n' n t L c → (∀ i, i < n → h' i = h i) → A n' h' (some (.ref t))) : ∀ (v : Option Value) (h' : AH) (n' : Nat), m ≤ n' → SPo h n L c (.inl v) h' n' → A n' h' v := by
  rintro v h' n' - ⟨g1, t, e, g2, g3⟩
  cases e
  exact k h' n' t g1 g2 g3
theorem spo_x {A : Prop} {h : AH} {n L : Nat} {c : List Int32} {E : String} {h' : AH} {n' : Nat} (z : SPo h n L c (.inr E) h' n') : A := by
  obtain ⟨-, t, e, -⟩ := z
  cases e
/-- a new array of bytes -/
def NBo (h : AH) (n L : Nat) (g : Nat → Int32) (K : Nat) : ARes → AH → Nat → Prop := fun r' h' n' => r' = .inl (some (.ref n)) ∧ n' = n + 1 ∧ (∃ f, h' n = .inl (2, L, .inl f) ∧ bfit f ∧ ∀ i, i < K → f i = g i) ∧ ∀ i, i ≠ n → h' i = h i
theorem nbo_k {A : Nat → AH → Option Value → Prop} {h : AH} {n L m K : Nat} {g : Nat → Int32} (k : ∀ h' f, h' n = .inl (2, L, .inl f) → bfit f → (∀ i, i < K → f i = g i) → (∀ i, i ≠ n → h' i = h i) → A (n + 1) h' (some (.ref n))) : ∀ (v : Option Value) (h' : AH) (n' : Nat), m ≤ n' → NBo h n L g K (.inl v) h' n' → A n' h' v := by
  rintro v h' n' - ⟨e, rfl, ⟨f, g1, g2, g4⟩, g3⟩
  cases e
  exact k h' f g1 g2 g4 g3
theorem nbo_x {A : Prop} {h : AH} {n L K : Nat} {g : Nat → Int32} {E : String} {h' : AH} {n' : Nat} (z : NBo h n L g K (.inr E) h' n') : A := by cases z.1
/-- how many digits -/
def dgt (k : Nat) : Nat := if k < 10 then 1 else 2
theorem neg_le {k L : Nat} (hk : k < 100) (hL : L ≤ 100) : -nI k ≤ -nI L ↔ L ≤ k := by
  rw [Int32.le_iff_toInt_le]
  have e : ∀ j : Nat, j ≤ 100 → (-nI j).toInt = -(j : Int) := by
    intro j hj
    have h2 : (nI j).toInt = (j : Int) := nI_toInt (by omega)
    rw [Int32.toInt_neg, h2, Int.bmod_eq_of_le (by omega) (by omega)]
  rw [e k (by omega), e L hL]
  omega
theorem neg_neg' (x : Int32) : -(-x) = x := Int32.neg_neg
/-- the texts and the digits that the class and the model use -/
def TXT (h : AH) : Prop := (∃ f, h 6 = .inl (2, 100, .inl f) ∧ ∀ k, k < 100 → f k = nI (48 + k / 10)) ∧ (∃ f, h 7 = .inl (2, 100, .inl f) ∧ ∀ k, k < 100 → f k = nI (48 + k % 10)) ∧ StF h 100 48 0 [] ∧ StF h 100 50 1 [32] ∧ StF h 100 52 1 [45] ∧ StF h 100 54 1 [47] ∧ StF h 100 40 1 [33]
theorem TXT.fr {h h' : AH} (hT : TXT h) (hF : ∀ i, i < 100 → h' i = h i) : TXT h' := by
  obtain ⟨⟨f, h1, z1⟩, ⟨g, h2, z2⟩, h3, h4, h5, h6, h7⟩ := hT
  exact ⟨⟨f, (hF 6 (by decide +kernel)).trans h1, z1⟩, ⟨g, (hF 7 (by decide +kernel)).trans h2, z2⟩, h3.fr hF (Nat.le_refl _), h4.fr hF (Nat.le_refl _), h5.fr hF (Nat.le_refl _), h6.fr hF (Nat.le_refl _), h7.fr hF (Nat.le_refl _)⟩
noncomputable def w_711 := gtw (amm_2_192.2.1) rfl
noncomputable def w_745 := gtw (amm_2_222.2.2.2.2.2.1) rfl
noncomputable def w_747 := gtw (amm_2_228.2.1) rfl
noncomputable def w_748 := gtw (amm_2_228.2.2.1) rfl
noncomputable def w_759 := gtw (amm_3.2.1) rfl
noncomputable def w_760 := gtw (amm_3.2.2.1) rfl
noncomputable def w_862 := gtw (amm_3_102.2.2.1) rfl
noncomputable def w_863 := gtw (amm_3_102.2.2.2.1) rfl
noncomputable def w_867 := gtw (amm_3_108.2.1) rfl
noncomputable def w_868 := gtw (amm_3_108.2.2.1) rfl
noncomputable def w_1494 := gtw (amm_6_12.2.2.2.2.1) rfl
noncomputable def w_1495 := gtw (amm_6_12.2.2.2.2.2.1) rfl
noncomputable def w_1496 := gtw (amm_6_18.1) rfl
noncomputable def w_1498 := gtw (amm_6_18.2.2.1) rfl
noncomputable def w_1499 := gtw (amm_6_18.2.2.2.1) rfl
noncomputable def w_1501 := gtw (amm_6_18.2.2.2.2.2.1) rfl
noncomputable def w_1502 := gtw (amm_6_24.1) rfl
theorem w_1506 : (Jvm.Cond.selects "java/lang/StringBuilder" ({ cls := "java/lang/AbstractStringBuilder", name := "ensureCapacityInternal", desc := "(I)V" } : Jvm.MethodName) ({ cls := "java/lang/AbstractStringBuilder", name := "ensureCapacityInternal", desc := "(I)V" } : Jvm.MethodName)) ∈ GT := agw_x.1 rfl
theorem w_1507 : (Jvm.Cond.selects "java/lang/StringBuilder" ({ cls := "java/lang/AbstractStringBuilder", name := "newCapacity", desc := "(I)I" } : Jvm.MethodName) ({ cls := "java/lang/AbstractStringBuilder", name := "newCapacity", desc := "(I)I" } : Jvm.MethodName)) ∈ GT := agw_x.2.1 rfl
theorem w_1510 : (Jvm.Cond.selects "java/lang/StringBuilder" ({ cls := "java/lang/AbstractStringBuilder", name := "putStringAt", desc := "(ILjava/lang/String;)V" } : Jvm.MethodName) ({ cls := "java/lang/AbstractStringBuilder", name := "putStringAt", desc := "(ILjava/lang/String;)V" } : Jvm.MethodName)) ∈ GT := agw_x.2.2.2.2.1 rfl
theorem w_1511 : (Jvm.Cond.selects "java/lang/StringBuilder" ({ cls := "java/lang/AbstractStringBuilder", name := "inflateIfNeededFor", desc := "(Ljava/lang/String;)V" } : Jvm.MethodName) ({ cls := "java/lang/AbstractStringBuilder", name := "inflateIfNeededFor", desc := "(Ljava/lang/String;)V" } : Jvm.MethodName)) ∈ GT := agw_x.2.2.2.2.2.1 rfl
theorem j_isLatin1 {h : AH} {d bc bs n : Nat} {a b : Nat} {fl x : Int32} (hb : h b = .inr (1, [.ref a, .int 0, .int fl, .int x])) : SM SR0 MJ5_isLatin1_aae02 d bc bs [.ref b] h n (Det (rI (1)) h n) := by
  refine sm_of pn_java_lang_AbstractStringBuilder rfl (Nat.le_of_ble_eq_true rfl) ?_
  refine sw_gets (pc' := 3) rfl dJ5_isLatin1_aae02_0 (v := .int 1) (by decide +kernel) w_690 ?_
  refine sw_if_eq (pc' := 6) (tgt := 17) rfl dJ5_isLatin1_aae02_3 (by decide +kernel) (fun c3 => ?_) (fun c3 => ?_)
  · exact absurd c3 (by decide +kernel)
  · refine sw_aload_n (pc' := 7) rfl dJ5_isLatin1_aae02_6 rfl ?_
    refine sw_getf (ci := 1) (k := 1) (pc' := 10) rfl dJ5_isLatin1_aae02_7 (by decide +kernel) w_700 hb rfl ?_
    refine sw_if_ne (pc' := 13) (tgt := 17) rfl dJ5_isLatin1_aae02_10 (by decide +kernel) (fun c10 => ?_) (fun c10 => ?_)
    · exact absurd c10 (by decide +kernel)
    · refine sw_iconst (pc' := 14) (v := 1) rfl dJ5_isLatin1_aae02_13 (by decide +kernel) ?_
      refine sw_goto (tgt := 18) dJ5_isLatin1_aae02_14 (by decide +kernel) ?_
      refine sw_ret (v := some _) ⟨dJ5_isLatin1_aae02_18, _, rfl, rfl⟩ ?_
      exact ⟨rfl, rfl, rfl⟩
theorem j_getValue {h : AH} {d bc bs n : Nat} {a b : Nat} {fl x : Int32} (hb : h b = .inr (1, [.ref a, .int 0, .int fl, .int x])) : SM SR0 MJ5_getValue_6d5f1 d bc bs [.ref b] h n (Det (.inl (some (.ref a))) h n) := by
  refine sm_of pn_java_lang_AbstractStringBuilder rfl (Nat.le_of_ble_eq_true rfl) ?_
  refine sw_aload_n (pc' := 1) rfl dJ5_getValue_6d5f1_0 rfl ?_
  refine sw_getf (ci := 1) (k := 0) (pc' := 4) rfl dJ5_getValue_6d5f1_1 (by decide +kernel) w_699 hb rfl ?_
  refine sw_ret (v := some _) ⟨dJ5_getValue_6d5f1_4, _, rfl, Or.inr ⟨_, rfl⟩⟩ ?_
  exact ⟨rfl, rfl, rfl⟩
theorem j_length5 {h : AH} {d bc bs n : Nat} {a b : Nat} {fl x : Int32} (hb : h b = .inr (1, [.ref a, .int 0, .int fl, .int x])) : SM SR0 MJ5_length_8abf5 d bc bs [.ref b] h n (Det (rI (x)) h n) := by
  refine sm_of pn_java_lang_AbstractStringBuilder rfl (Nat.le_of_ble_eq_true rfl) ?_
  refine sw_aload_n (pc' := 1) rfl dJ5_length_8abf5_0 rfl ?_
  refine sw_getf (ci := 1) (k := 3) (pc' := 4) rfl dJ5_length_8abf5_1 (by decide +kernel) w_702 hb rfl ?_
  refine sw_ret (v := some _) ⟨dJ5_length_8abf5_4, _, rfl, rfl⟩ ?_
  exact ⟨rfl, rfl, rfl⟩
theorem j_length4 {h : AH} {d bc bs n : Nat} {a b : Nat} {fl x : Int32} (hb : h b = .inr (1, [.ref a, .int 0, .int fl, .int x])) (hd : 1 ≤ d) : SM SR0 MJ4_length_8abf5 d bc bs [.ref b] h n (Det (rI (x)) h n) := by
  refine sm_of pn_java_lang_StringBuilder rfl (Nat.le_of_ble_eq_true rfl) ?_
  refine sw_aload_n (pc' := 1) rfl dJ4_length_8abf5_0 rfl ?_
  refine sw_callSU (M' := MJ5_length_8abf5) (d' := d - 1) (bc' := 0) (bs' := 0) (ci := 1) (as := []) dJ4_length_8abf5_1 w_871 w_867 (by decide +kernel) (by decide +kernel) w_866 w_711 w_53 (by unfold cwM; exact w_872) (show _ = some 0 by decide +kernel) rfl (by omega) (by decide +kernel) (j_length5 hb) hb (Nat.le_of_ble_eq_true rfl) (Nat.zero_le _) (Nat.zero_le _) (det_k ?_) (fun E h' n' _ z => det_x z)
  refine sw_ret (v := some _) ⟨dJ4_length_8abf5_4, _, rfl, rfl⟩ ?_
  exact ⟨rfl, rfl, rfl⟩
theorem j_canEncode {h : AH} {d bc bs n : Nat} {x : Int32} (hx : ¬ 255 < x) : SM SR0 MJ1_canEncode_fc78d d bc bs [.int x] h n (Det (rI (1)) h n) := by
  refine sm_of pn_java_lang_StringLatin1 rfl (Nat.le_of_ble_eq_true rfl) ?_
  refine sw_iload_n (pc' := 1) rfl dJ1_canEncode_fc78d_0 rfl ?_
  refine sw_sipush (pc' := 4) (v := 255) rfl dJ1_canEncode_fc78d_1 (by decide +kernel) ?_
  refine sw_icmp_gt (pc' := 7) (tgt := 11) rfl dJ1_canEncode_fc78d_4 (by decide +kernel) (fun c4 => ?_) (fun c4 => ?_)
  · exact absurd c4 hx
  · refine sw_iconst (pc' := 8) (v := 1) rfl dJ1_canEncode_fc78d_7 (by decide +kernel) ?_
    refine sw_goto (tgt := 12) dJ1_canEncode_fc78d_8 (by decide +kernel) ?_
    refine sw_ret (v := some _) ⟨dJ1_canEncode_fc78d_12, _, rfl, rfl⟩ ?_
    exact ⟨rfl, rfl, rfl⟩
theorem j_newLength {h : AH} {d bc bs n : Nat} {x y z : Nat} (h1 : x + y < 100000) (h2 : x + z < 100000) (h3 : 0 < z) (hd : 1 ≤ d) : SM SR0 MJ8_newLength_cabcc d bc bs [.int (nI x), .int (nI y), .int (nI z)] h n (Det (rI (nI (x + (if y < z then z else y)))) h n) := by
  refine sm_of pn_jdk_internal_util_ArraysSupport rfl (Nat.le_of_ble_eq_true rfl) ?_
  refine sw_iload_n (pc' := 1) rfl dJ8_newLength_cabcc_0 rfl ?_
  refine sw_iload_n (pc' := 2) rfl dJ8_newLength_cabcc_1 rfl ?_
  refine sw_iload_n (pc' := 3) rfl dJ8_newLength_cabcc_2 rfl ?_
  refine sw_S (M' := MJ9_max_7cf53) (d' := d - 1) (bc' := 0) (bs' := 0) (as := [_, _]) dJ8_newLength_cabcc_3 w_733 ok_J9_max_7cf53 (m_max) (by omega) (Nat.le_of_ble_eq_true rfl) (Nat.zero_le _) (Nat.zero_le _) (fun E h' n' _ z => det_x z) (det_k ?_)
  rw [maxN (by omega) (by omega)]
  refine sw_iadd (pc' := 7) rfl dJ8_newLength_cabcc_6 ?_
  rw [show nI x + nI (if y < z then z else y) = nI (x + (if y < z then z else y)) from nI_add _ _]
  have hcap : 0 < x + (if y < z then z else y) ∧ x + (if y < z then z else y) < 100000 := by split <;> omega
  refine sw_istore_n (pc' := 8) (lv' := [(3, _), (0, _), (1, _), (2, _)]) rfl dJ8_newLength_cabcc_7 (by decide +kernel) rfl ?_
  refine sw_iconst (pc' := 9) (v := 0) rfl dJ8_newLength_cabcc_8 (by decide +kernel) ?_
  refine sw_iload_n (pc' := 10) rfl dJ8_newLength_cabcc_9 rfl ?_
  refine sw_icmp_ge (pc' := 13) (tgt := 21) rfl dJ8_newLength_cabcc_10 (by decide +kernel) (fun c10 => ?_) (fun c10 => ?_)
  · exact absurd c10 (nI_nle hcap.1 (by omega))
  · refine sw_iload_n (pc' := 14) rfl dJ8_newLength_cabcc_13 rfl ?_
    refine sw_ldcI (pc' := 16) (v := 2147483639) rfl dJ8_newLength_cabcc_14 w_736 ?_
    refine sw_icmp_gt (pc' := 19) (tgt := 21) rfl dJ8_newLength_cabcc_16 (by decide +kernel) (fun c16 => ?_) (fun c16 => ?_)
    · exact absurd c16 (nI_nlt (a := 2147483639) (b := _) (by omega) (by decide +kernel))
    · refine sw_iload_n (pc' := 20) rfl dJ8_newLength_cabcc_19 rfl ?_
      refine sw_ret (v := some _) ⟨dJ8_newLength_cabcc_20, _, rfl, rfl⟩ ?_
      exact ⟨rfl, rfl, rfl⟩
theorem capG_le {q m B : Nat} (h : m < q) (hq : q ≤ B) : q ≤ capG q m ∧ capG q m ≤ 2 * B := by unfold capG; split <;> omega
theorem j_newCapacity {h : AH} {d bc bs n : Nat} {a b m q B : Nat} {f : Nat → Int32} {fl x : Int32} (hb : h b = .inr (1, [.ref a, .int 0, .int fl, .int x])) (ha : h a = .inl (2, m, .inl f)) (ha0 : 100 ≤ a) (hmq : m < q) (hq : q ≤ B) (hB : B ≤ 1000) (hd : 2 ≤ d) : SM SR0 MJ5_newCapacity_0f7a4 d bc bs [.ref b, .int (nI q)] h n (Det (rI (nI (capG q m))) h n) := by
  refine sm_of pn_java_lang_AbstractStringBuilder rfl (Nat.le_of_ble_eq_true rfl) ?_
  refine sw_aload_n (pc' := 1) rfl dJ5_newCapacity_0f7a4_0 rfl ?_
  refine sw_getf (ci := 1) (k := 0) (pc' := 4) rfl dJ5_newCapacity_0f7a4_1 (by decide +kernel) w_699 hb rfl ?_
  refine sw_alen (pc' := 5) rfl dJ5_newCapacity_0f7a4_4 ha (by decide +kernel) (Or.inl (by show 100 ≤ _; omega)) ?_
  refine sw_istore_n (pc' := 6) (lv' := [(2, _), (0, _), (1, _)]) rfl dJ5_newCapacity_0f7a4_5 (by decide +kernel) rfl ?_
  refine sw_iload_n (pc' := 7) rfl dJ5_newCapacity_0f7a4_6 rfl ?_
  refine sw_aload_n (pc' := 8) rfl dJ5_newCapacity_0f7a4_7 rfl ?_
  refine sw_getf (ci := 1) (k := 1) (pc' := 11) rfl dJ5_newCapacity_0f7a4_8 (by decide +kernel) w_700 hb rfl ?_
  refine sw_ishl (pc' := 12) rfl dJ5_newCapacity_0f7a4_11 ?_
  rw [shl0]
  refine sw_istore_n (pc' := 13) (lv' := [(3, _), (2, _), (0, _), (1, _)]) rfl dJ5_newCapacity_0f7a4_12 (by decide +kernel) rfl ?_
  refine sw_iload_n (pc' := 14) rfl dJ5_newCapacity_0f7a4_13 rfl ?_
  refine sw_iload_n (pc' := 15) rfl dJ5_newCapacity_0f7a4_14 rfl ?_
  refine sw_isub (pc' := 16) rfl dJ5_newCapacity_0f7a4_15 ?_
  rw [show nI q - nI m = nI (q - m) from pk_sub (by omega)]
  refine sw_istore (pc' := 18) (lv' := [(4, _), (3, _), (2, _), (0, _), (1, _)]) rfl dJ5_newCapacity_0f7a4_16 (by decide +kernel) rfl ?_
  refine sw_iload_n (pc' := 19) rfl dJ5_newCapacity_0f7a4_18 rfl ?_
  refine sw_iload (pc' := 21) rfl dJ5_newCapacity_0f7a4_19 rfl ?_
  refine sw_iload_n (pc' := 22) rfl dJ5_newCapacity_0f7a4_21 rfl ?_
  refine sw_iconst (pc' := 23) (v := 2) rfl dJ5_newCapacity_0f7a4_22 (by decide +kernel) ?_
  refine sw_aload_n (pc' := 24) rfl dJ5_newCapacity_0f7a4_23 rfl ?_
  refine sw_getf (ci := 1) (k := 1) (pc' := 27) rfl dJ5_newCapacity_0f7a4_24 (by decide +kernel) w_700 hb rfl ?_
  refine sw_ishl (pc' := 28) rfl dJ5_newCapacity_0f7a4_27 ?_
  rw [shl0]
  refine sw_iadd (pc' := 29) rfl dJ5_newCapacity_0f7a4_28 ?_
  rw [show nI m + 2 = nI (m + 2) from nI_add m 2]
  refine sw_S (M' := MJ8_newLength_cabcc) (d' := d - 1) (bc' := 0) (bs' := 0) (as := [_, _, _]) dJ5_newCapacity_0f7a4_29 w_730 ok_J8_newLength_cabcc (j_newLength (x := m) (y := q - m) (z := m + 2) (by omega) (by omega) (by omega) (by omega)) (by omega) (Nat.le_of_ble_eq_true rfl) (Nat.zero_le _) (Nat.zero_le _) (fun E h' n' _ z => det_x z) (det_k ?_)
  refine sw_istore (pc' := 34) (lv' := [(5, _), (4, _), (3, _), (2, _), (0, _), (1, _)]) rfl dJ5_newCapacity_0f7a4_32 (by decide +kernel) rfl ?_
  have hcp := capG_le hmq hq
  unfold capG at hcp
  refine sw_iload (pc' := 36) rfl dJ5_newCapacity_0f7a4_34 rfl ?_
  refine sw_ldcI (pc' := 38) (v := 2147483647) rfl dJ5_newCapacity_0f7a4_36 w_740 ?_
  refine sw_icmp_ne (pc' := 41) (tgt := 51) rfl dJ5_newCapacity_0f7a4_38 (by decide +kernel) (fun c38 => ?_) (fun c38 => ?_)
  · refine sw_iload (pc' := 53) rfl dJ5_newCapacity_0f7a4_51 rfl ?_
    refine sw_aload_n (pc' := 54) rfl dJ5_newCapacity_0f7a4_53 rfl ?_
    refine sw_getf (ci := 1) (k := 1) (pc' := 57) rfl dJ5_newCapacity_0f7a4_54 (by decide +kernel) w_700 hb rfl ?_
    refine sw_ishr (pc' := 58) rfl dJ5_newCapacity_0f7a4_57 ?_
    rw [shr0]
    refine sw_ret (v := some _) ⟨dJ5_newCapacity_0f7a4_58, _, rfl, rfl⟩ ?_
    exact ⟨rfl, rfl, rfl⟩
  · exact absurd ((nI_eq (b := 2147483647) (by omega) (by decide +kernel)).mp c38) (by omega)
theorem j_copyOf {h : AH} {d bc bs n : Nat} {a m q : Nat} {f : Nat → Int32} (ha : h a = .inl (2, m, .inl f)) (hf : bfit f) (ha0 : 100 ≤ a) (han : a < n) (hmq : m < q) (hq : q ≤ 2000) (hd : 1 ≤ d) (h1 : 1 ≤ bc) (h2 : q ≤ bs) : SM SR0 MJ7_copyOf_9075b d bc bs [.ref a, .int (nI q)] h n (NBo h n q f m) := by
  refine sm_of pn_java_util_Arrays rfl (Nat.le_of_ble_eq_true rfl) ?_
  refine sw_iload_n (pc' := 1) rfl dJ7_copyOf_9075b_0 rfl ?_
  refine sw_aload_n (pc' := 2) rfl dJ7_copyOf_9075b_1 rfl ?_
  refine sw_alen (pc' := 3) rfl dJ7_copyOf_9075b_2 ha (by decide +kernel) (Or.inl (by show 100 ≤ _; omega)) ?_
  refine sw_icmp_ne (pc' := 6) (tgt := 14) rfl dJ7_copyOf_9075b_3 (by decide +kernel) (fun c3 => ?_) (fun c3 => ?_)
  · refine sw_iload_n (pc' := 15) rfl dJ7_copyOf_9075b_14 rfl ?_
    refine sw_newa (t := 2) (len := q) (pc' := 17) rfl dJ7_copyOf_9075b_15 (by decide +kernel) w_352 rfl (by omega) (by omega) (by omega) ?_
    refine sw_nm (fun g1 eg1 => ?_)
    have zg1 := (congrFun eg1 n).trans (up_s (h := h) (i := n))
    refine sw_astore_n (pc' := 18) (lv' := [(2, _), (0, _), (1, _)]) rfl dJ7_copyOf_9075b_17 (by decide +kernel) rfl ?_
    refine sw_aload_n (pc' := 19) rfl dJ7_copyOf_9075b_18 rfl ?_
    refine sw_iconst (pc' := 20) (v := 0) rfl dJ7_copyOf_9075b_19 (by decide +kernel) ?_
    refine sw_aload_n (pc' := 21) rfl dJ7_copyOf_9075b_20 rfl ?_
    refine sw_iconst (pc' := 22) (v := 0) rfl dJ7_copyOf_9075b_21 (by decide +kernel) ?_
    refine sw_aload_n (pc' := 23) rfl dJ7_copyOf_9075b_22 rfl ?_
    refine sw_alen (pc' := 24) rfl dJ7_copyOf_9075b_23 (((congrFun eg1 a).trans (up_n (by omega))).trans ha) (by decide +kernel) (Or.inl (by show 100 ≤ _; omega)) ?_
    refine sw_iload_n (pc' := 25) rfl dJ7_copyOf_9075b_24 rfl ?_
    refine sw_S (M' := MJ9_min_7cf53) (d' := d - 1) (bc' := 0) (bs' := 0) (as := [_, _]) dJ7_copyOf_9075b_25 w_751 ok_J9_min_7cf53 (m_min) (by omega) (Nat.le_of_ble_eq_true rfl) (Nat.zero_le _) (Nat.zero_le _) (fun E h' n' _ z => det_x z) (det_k ?_)
    rw [minN (by omega) (by omega)]
    refine sw_copyB (pc' := 31) (sp := 0) (dp := 0) (k := m) rfl dJ7_copyOf_9075b_28 w_754 w_756 w_755 w_59 (((congrFun eg1 a).trans (up_n (by omega))).trans ha) zg1 (by show 100 ≤ _; omega) hf (by omega) (by omega) rfl rfl rfl (by omega) (by omega) (Nat.le_of_ble_eq_true rfl) ?_
    refine sw_nm (fun g2 eg2 => ?_)
    have zg2 := (congrFun eg2 n).trans (up_s (h := g1) (i := n))
    refine sw_aload_n (pc' := 32) rfl dJ7_copyOf_9075b_31 rfl ?_
    refine sw_ret (v := some _) ⟨dJ7_copyOf_9075b_32, _, rfl, Or.inr ⟨_, rfl⟩⟩ ?_
    exact ⟨rfl, rfl, ⟨_, zg2, bfit_cpy hf bfit0, fun i hi => cpy0 hi⟩, fun i h1 => (congrFun eg2 i).trans ((up_n h1).trans ((congrFun eg1 i).trans ((up_n h1).trans (rfl))))⟩
  · exact absurd ((nI_eq (by omega) (by omega)).mp c3) (by omega)
theorem j_ensure {h : AH} {d bc bs n : Nat} {n1 n0 b N m q : Nat} {c : List Int32} (hS : SbF h n1 n0 b N m c) (hn1 : n1 ≤ n) (h0 : 100 ≤ n0) (hNq : N ≤ q) (hq : q ≤ 1000) (hm : m ≤ 2000) (hd : 4 ≤ d) (h1 : 1 ≤ bc) (h2 : grC m q ≤ bs) : SM SR0 MJ5_ensureCapacityInternal_d00df d bc bs [.ref b, .int (nI q)] h n (SEo h n n1 n0 b N (capN m q) c none) := by
  obtain ⟨a, f, fl, hb, ha, hf, hNC, ha0, han, hb0, hbn, hba, hC⟩ := hS
  refine sm_of pn_java_lang_AbstractStringBuilder rfl (Nat.le_of_ble_eq_true rfl) ?_
  refine sw_aload_n (pc' := 1) rfl dJ5_ensureCapacityInternal_d00df_0 rfl ?_
  refine sw_getf (ci := 1) (k := 0) (pc' := 4) rfl dJ5_ensureCapacityInternal_d00df_1 (by decide +kernel) w_699 hb rfl ?_
  refine sw_alen (pc' := 5) rfl dJ5_ensureCapacityInternal_d00df_4 ha (by decide +kernel) (Or.inl (by show 100 ≤ _; omega)) ?_
  refine sw_aload_n (pc' := 6) rfl dJ5_ensureCapacityInternal_d00df_5 rfl ?_
  refine sw_getf (ci := 1) (k := 1) (pc' := 9) rfl dJ5_ensureCapacityInternal_d00df_6 (by decide +kernel) w_700 hb rfl ?_
  refine sw_ishr (pc' := 10) rfl dJ5_ensureCapacityInternal_d00df_9 ?_
  rw [shr0]
  refine sw_istore_n (pc' := 11) (lv' := [(2, _), (0, _), (1, _)]) rfl dJ5_ensureCapacityInternal_d00df_10 (by decide +kernel) rfl ?_
  refine sw_iload_n (pc' := 12) rfl dJ5_ensureCapacityInternal_d00df_11 rfl ?_
  refine sw_iload_n (pc' := 13) rfl dJ5_ensureCapacityInternal_d00df_12 rfl ?_
  refine sw_isub (pc' := 14) rfl dJ5_ensureCapacityInternal_d00df_13 ?_
  refine sw_if_le (pc' := 17) (tgt := 38) rfl dJ5_ensureCapacityInternal_d00df_14 (by decide +kernel) (fun c14 => ?_) (fun c14 => ?_)
  · refine sw_ret (v := none) ⟨dJ5_ensureCapacityInternal_d00df_38, rfl⟩ ?_
    have hqm : q ≤ m := Nat.le_of_not_lt (fun g => (show ¬ nI q - nI m ≤ 0 from by rw [pk_sub (by omega)]; exact nI_nle (by omega) (by omega)) c14)
    rw [capN_s hqm]
    exact ⟨rfl, Nat.le_refl _, ⟨a, f, fl, hb, ha, hf, by omega, ha0, by omega, hb0, by omega, hba, Or.inl han, hC⟩, fun _ _ => rfl⟩
  · have hqm : ¬ q ≤ m := fun g => c14 (by
      by_cases e : q = m
      · rw [e, Int32.sub_self]; exact Int32.le_refl _
      · exact Int32.le_of_lt (pk_sneg (by omega) (by omega)))
    refine sw_aload_n (pc' := 18) rfl dJ5_ensureCapacityInternal_d00df_17 rfl ?_
    refine sw_aload_n (pc' := 19) rfl dJ5_ensureCapacityInternal_d00df_18 rfl ?_
    refine sw_getf (ci := 1) (k := 0) (pc' := 22) rfl dJ5_ensureCapacityInternal_d00df_19 (by decide +kernel) w_699 hb rfl ?_
    refine sw_aload_n (pc' := 23) rfl dJ5_ensureCapacityInternal_d00df_22 rfl ?_
    refine sw_iload_n (pc' := 24) rfl dJ5_ensureCapacityInternal_d00df_23 rfl ?_
    have h2g : capG q m ≤ bs := by rw [show grC m q = capG q m from if_neg hqm] at h2; exact h2
    refine sw_callU (M' := MJ5_newCapacity_0f7a4) (x := ({ cls := "java/lang/AbstractStringBuilder", name := "newCapacity", desc := "(I)I" } : Jvm.MethodName)) (d' := d - 1) (bc' := 0) (bs' := 0) (ci := 1) (as := [_]) dJ5_ensureCapacityInternal_d00df_24 w_726 w_1496 rfl w_728 w_1507 w_53 (by unfold cwM; exact w_729) (by decide +kernel) (show _ = some 1 by decide +kernel) rfl (by omega) (by decide +kernel) (j_newCapacity (B := 1000) hb ha (by omega) (by omega) hq (Nat.le_refl _) (by omega)) hb (Nat.le_of_ble_eq_true rfl) (Nat.zero_le _) (Nat.zero_le _) (det_k ?_) (fun E h' n' _ z => det_x z)
    have hcp := capG_le (q := q) (m := m) (B := 1000) (by omega) hq
    refine sw_aload_n (pc' := 28) rfl dJ5_ensureCapacityInternal_d00df_27 rfl ?_
    refine sw_getf (ci := 1) (k := 1) (pc' := 31) rfl dJ5_ensureCapacityInternal_d00df_28 (by decide +kernel) w_700 hb rfl ?_
    refine sw_ishl (pc' := 32) rfl dJ5_ensureCapacityInternal_d00df_31 ?_
    rw [shl0]
    refine sw_S (M' := MJ7_copyOf_9075b) (d' := d - 1) (bc' := 1) (bs' := (capG q m)) (as := [_, _]) dJ5_ensureCapacityInternal_d00df_32 w_741 ok_J7_copyOf_9075b (j_copyOf ha hf (by omega) (by omega) (by omega) (by omega) (by omega) (by omega) (by omega)) (by omega) (Nat.le_of_ble_eq_true rfl) (by omega) (by omega) (fun E h' n' _ z => nbo_x z) (nbo_k (fun p pf pN pfit pC pF => ?_))
    refine sw_putf (ci := 1) (k := 0) (pc' := 38) rfl dJ5_ensureCapacityInternal_d00df_35 (by decide +kernel) (by decide +kernel) w_699 rfl ((pF b (by omega)).trans hb) (by show 100 ≤ _; omega) (Nat.le_of_ble_eq_true rfl) rfl rfl ?_
    refine sw_nm (fun g1 eg1 => ?_)
    have zg1 := (congrFun eg1 b).trans (up_s (h := p) (i := b))
    refine sw_ret (v := none) ⟨dJ5_ensureCapacityInternal_d00df_38, rfl⟩ ?_
    rw [show capN m q = capG q m from if_neg hqm]
    exact ⟨rfl, Nat.le_succ _, ⟨n, pf, fl, zg1, (((congrFun eg1 n).trans (up_n (by omega))).trans pN), pfit, by omega, by omega, Nat.lt_succ_self _, by omega, by omega, by omega, Or.inr (Nat.le_refl _), hC.ext (fun i hi => pC i (by omega))⟩, fun i hi => (congrFun eg1 i).trans ((up_n (by omega)).trans (pF i (by omega)))⟩
theorem j_appendC5 {h : AH} {d bc bs n : Nat} {n1 n0 b N m : Nat} {c : List Int32} {x y : Int32} (hS : SbF h n1 n0 b N m c) (hn1 : n1 ≤ n) (h0 : 100 ≤ n0) (hm : m ≤ 2000) (hx : ¬ 255 < x) (hy : vp_nar .byte x.toInt8.toInt32 = y) (hN : N + 1 ≤ 1000) (hd : 5 ≤ d) (h1 : 1 ≤ bc) (h2 : grC m (N + 1) ≤ bs) : SM SR0 MJ5_append_3fe6f d bc bs [.ref b, .int x] h n (SBo h n n1 n0 b (N + 1) (capN m (N + 1)) (c ++ [y]) (some (.ref b))) := by
  obtain ⟨a0, f0, fl0, hS0, -⟩ := id hS
  have hbb := hS.lt
  have hrm := hS.rm
  refine sm_of pn_java_lang_AbstractStringBuilder rfl (Nat.le_of_ble_eq_true rfl) ?_
  refine sw_aload_n (pc' := 1) rfl dJ5_append_3fe6f_0 rfl ?_
  refine sw_aload_n (pc' := 2) rfl dJ5_append_3fe6f_1 rfl ?_
  refine sw_getf (ci := 1) (k := 3) (pc' := 5) rfl dJ5_append_3fe6f_2 (by decide +kernel) w_702 hS0 rfl ?_
  refine sw_iconst (pc' := 6) (v := 1) rfl dJ5_append_3fe6f_5 (by decide +kernel) ?_
  refine sw_iadd (pc' := 7) rfl dJ5_append_3fe6f_6 ?_
  rw [nI_1]
  refine sw_callU (M' := MJ5_ensureCapacityInternal_d00df) (x := ({ cls := "java/lang/AbstractStringBuilder", name := "ensureCapacityInternal", desc := "(I)V" } : Jvm.MethodName)) (d' := d - 1) (bc' := 1) (bs' := (grC m (N + 1))) (ci := 1) (as := [_]) dJ5_append_3fe6f_7 w_722 w_1495 rfl w_724 w_1506 w_53 (by unfold cwM; exact w_725) (by decide +kernel) (show _ = some 1 by decide +kernel) rfl (by omega) (by decide +kernel) (j_ensure hS hn1 h0 (by omega) (by omega) hm (by omega) (by omega) (Nat.le_refl _)) hS0 (Nat.le_of_ble_eq_true rfl) (by omega) (by omega) (seo_k (fun p pn pk pS pF => ?_)) (fun E h' n' _ z => seo_x z)
  obtain ⟨pa, pf, pfl, pb, ph, pfit, pNm, pa0, pan, pb0, pbn, pba, pax, pC⟩ := id pS
  obtain ⟨-, hp1, hp2, hp3⟩ := pot (m := m) (q := N + 1) (K := 2000) (by omega) (by omega)
  refine sw_aload_n (pc' := 11) rfl dJ5_append_3fe6f_10 rfl ?_
  refine sw_callU (M' := MJ5_isLatin1_aae02) (x := ({ cls := "java/lang/AbstractStringBuilder", name := "isLatin1", desc := "()Z" } : Jvm.MethodName)) (d' := d - 1) (bc' := 0) (bs' := 0) (ci := 1) (as := []) dJ5_append_3fe6f_11 w_757 w_759 rfl w_758 w_760 w_53 (by unfold cwM; exact w_761) (by decide +kernel) (show _ = some 0 by decide +kernel) rfl (by omega) (by decide +kernel) (j_isLatin1 pb) pb (Nat.le_of_ble_eq_true rfl) (Nat.zero_le _) (Nat.zero_le _) (det_k ?_) (fun E h' n' _ z => det_x z)
  refine sw_if_eq (pc' := 17) (tgt := 45) rfl dJ5_append_3fe6f_14 (by decide +kernel) (fun c14 => ?_) (fun c14 => ?_)
  · exact absurd c14 (by decide +kernel)
  · refine sw_iload_n (pc' := 18) rfl dJ5_append_3fe6f_17 rfl ?_
    refine sw_S (M' := MJ1_canEncode_fc78d) (d' := d - 1) (bc' := 0) (bs' := 0) (as := [_]) dJ5_append_3fe6f_18 w_762 ok_J1_canEncode_fc78d (j_canEncode hx) (by omega) (Nat.le_of_ble_eq_true rfl) (Nat.zero_le _) (Nat.zero_le _) (fun E h' n' _ z => det_x z) (det_k ?_)
    refine sw_if_eq (pc' := 24) (tgt := 45) rfl dJ5_append_3fe6f_21 (by decide +kernel) (fun c21 => ?_) (fun c21 => ?_)
    · exact absurd c21 (by decide +kernel)
    · refine sw_aload_n (pc' := 25) rfl dJ5_append_3fe6f_24 rfl ?_
      refine sw_getf (ci := 1) (k := 0) (pc' := 28) rfl dJ5_append_3fe6f_25 (by decide +kernel) w_699 pb rfl ?_
      refine sw_aload_n (pc' := 29) rfl dJ5_append_3fe6f_28 rfl ?_
      refine sw_dup (pc' := 30) rfl dJ5_append_3fe6f_29 rfl ?_
      refine sw_getf (ci := 1) (k := 3) (pc' := 33) rfl dJ5_append_3fe6f_30 (by decide +kernel) w_702 pb rfl ?_
      refine sw_dup_x1 (pc' := 34) rfl dJ5_append_3fe6f_33 rfl rfl ?_
      refine sw_iconst (pc' := 35) (v := 1) rfl dJ5_append_3fe6f_34 (by decide +kernel) ?_
      refine sw_iadd (pc' := 36) rfl dJ5_append_3fe6f_35 ?_
      rw [nI_1]
      refine sw_putf (ci := 1) (k := 3) (pc' := 39) rfl dJ5_append_3fe6f_36 (by decide +kernel) (by decide +kernel) w_702 rfl pb (by show 100 ≤ _; omega) (Nat.le_of_ble_eq_true rfl) rfl rfl ?_
      refine sw_nm (fun g1 eg1 => ?_)
      have zg1 := (congrFun eg1 b).trans (up_s (h := p) (i := b))
      refine sw_iload_n (pc' := 40) rfl dJ5_append_3fe6f_39 rfl ?_
      refine sw_i2b (pc' := 41) rfl dJ5_append_3fe6f_40 ?_
      refine sw_bast (j := N) (pc' := 42) rfl dJ5_append_3fe6f_41 (((congrFun eg1 pa).trans (up_n (by omega))).trans ph) (by show 100 ≤ _; omega) rfl (by omega) (by omega) ?_
      refine sw_nm (fun g2 eg2 => ?_)
      have zg2 := (congrFun eg2 pa).trans (up_s (h := g1) (i := pa))
      refine sw_goto (tgt := 75) dJ5_append_3fe6f_42 (by decide +kernel) ?_
      refine sw_aload_n (pc' := 76) rfl dJ5_append_3fe6f_75 rfl ?_
      refine sw_ret (v := some _) ⟨dJ5_append_3fe6f_76, _, rfl, Or.inl ⟨_, rfl⟩⟩ ?_
      exact ⟨rfl, pk, ⟨pa, _, pfl, (((congrFun eg2 b).trans (up_n (by omega))).trans zg1), zg2, bfit_up pfit, by omega, pa0, pan, pb0, pbn, pba, pC.up' hy⟩, fun i hi => (congrFun eg2 i).trans ((up_n (by omega)).trans ((congrFun eg1 i).trans ((up_n (by omega)).trans (pF i hi))))⟩
theorem j_appendC {h : AH} {d bc bs n : Nat} {n1 n0 b N m : Nat} {c : List Int32} {x y : Int32} (hS : SbF h n1 n0 b N m c) (hn1 : n1 ≤ n) (h0 : 100 ≤ n0) (hm : m ≤ 2000) (hx : ¬ 255 < x) (hy : vp_nar .byte x.toInt8.toInt32 = y) (hN : N + 1 ≤ 1000) (hd : 6 ≤ d) (h1 : 1 ≤ bc) (h2 : grC m (N + 1) ≤ bs) : SM SR0 MJ4_append_cf468 d bc bs [.ref b, .int x] h n (SBo h n n1 n0 b (N + 1) (capN m (N + 1)) (c ++ [y]) (some (.ref b))) := by
  obtain ⟨a0, f0, fl0, hS0, -⟩ := id hS
  have hbb := hS.lt
  have hrm := hS.rm
  refine sm_of pn_java_lang_StringBuilder rfl (Nat.le_of_ble_eq_true rfl) ?_
  refine sw_aload_n (pc' := 1) rfl dJ4_append_cf468_0 rfl ?_
  refine sw_iload_n (pc' := 2) rfl dJ4_append_cf468_1 rfl ?_
  refine sw_callSU (M' := MJ5_append_3fe6f) (d' := d - 1) (bc' := 1) (bs' := (grC m (N + 1))) (ci := 1) (as := [_]) dJ4_append_cf468_2 w_719 w_1494 (by decide +kernel) (by decide +kernel) w_720 w_711 w_53 (by unfold cwM; exact w_721) (show _ = some 1 by decide +kernel) rfl (by omega) (by decide +kernel) (j_appendC5 hS hn1 h0 hm hx hy hN (by omega) (by omega) (Nat.le_refl _)) hS0 (Nat.le_of_ble_eq_true rfl) (by omega) (by omega) (sbo_k (fun p pn pk pS pF => ?_)) (fun E h' n' _ z => sbo_x z)
  refine sw_pop (pc' := 6) rfl dJ4_append_cf468_5 rfl ?_
  refine sw_aload_n (pc' := 7) rfl dJ4_append_cf468_6 rfl ?_
  refine sw_ret (v := some _) ⟨dJ4_append_cf468_7, _, rfl, Or.inl ⟨_, rfl⟩⟩ ?_
  exact ⟨rfl, pk, pS, pF⟩
theorem j_stringSize {h : AH} {d bc bs n : Nat} {k : Nat} (hk : k < 100) : SM SR0 MJ6_stringSize_0f7a4 d bc bs [.int (nI k)] h n (Det (rI (nI (dgt k))) h n) := by
  refine sm_of pn_java_lang_Integer rfl (Nat.le_of_ble_eq_true rfl) ?_
  refine sw_iconst (pc' := 1) (v := 1) rfl dJ6_stringSize_0f7a4_0 (by decide +kernel) ?_
  refine sw_istore_n (pc' := 2) (lv' := [(1, _), (0, _)]) rfl dJ6_stringSize_0f7a4_1 (by decide +kernel) rfl ?_
  refine sw_iload_n (pc' := 3) rfl dJ6_stringSize_0f7a4_2 rfl ?_
  refine sw_if_lt (pc' := 6) (tgt := 11) rfl dJ6_stringSize_0f7a4_3 (by decide +kernel) (fun c3 => ?_) (fun c3 => ?_)
  · exact absurd c3 (nI_pos (by omega))
  · refine sw_iconst (pc' := 7) (v := 0) rfl dJ6_stringSize_0f7a4_6 (by decide +kernel) ?_
    refine sw_istore_n (pc' := 8) (lv' := [(1, _), (0, _)]) rfl dJ6_stringSize_0f7a4_7 (by decide +kernel) rfl ?_
    refine sw_iload_n (pc' := 9) rfl dJ6_stringSize_0f7a4_8 rfl ?_
    refine sw_ineg (pc' := 10) rfl dJ6_stringSize_0f7a4_9 ?_
    refine sw_istore_n (pc' := 11) (lv' := [(0, _), (1, _)]) rfl dJ6_stringSize_0f7a4_10 (by decide +kernel) rfl ?_
    refine sw_bipush (pc' := 13) (v := (-10)) rfl dJ6_stringSize_0f7a4_11 (by decide +kernel) ?_
    refine sw_istore_n (pc' := 14) (lv' := [(2, _), (0, _), (1, _)]) rfl dJ6_stringSize_0f7a4_13 (by decide +kernel) rfl ?_
    refine sw_iconst (pc' := 15) (v := 1) rfl dJ6_stringSize_0f7a4_14 (by decide +kernel) ?_
    refine sw_istore_n (pc' := 16) (lv' := [(3, _), (2, _), (0, _), (1, _)]) rfl dJ6_stringSize_0f7a4_15 (by decide +kernel) rfl ?_
    refine sw_iload_n (pc' := 17) rfl dJ6_stringSize_0f7a4_16 rfl ?_
    refine sw_bipush (pc' := 19) (v := 10) rfl dJ6_stringSize_0f7a4_17 (by decide +kernel) ?_
    refine sw_icmp_ge (pc' := 22) (tgt := 42) rfl dJ6_stringSize_0f7a4_19 (by decide +kernel) (fun c19 => ?_) (fun c19 => ?_)
    · exact absurd c19 (by decide +kernel)
    · refine sw_iload_n (pc' := 23) rfl dJ6_stringSize_0f7a4_22 rfl ?_
      refine sw_iload_n (pc' := 24) rfl dJ6_stringSize_0f7a4_23 rfl ?_
      refine sw_icmp_le (pc' := 27) (tgt := 31) rfl dJ6_stringSize_0f7a4_24 (by decide +kernel) (fun c24 => ?_) (fun c24 => ?_)
      · have k10 : 10 ≤ k := (neg_le (L := 10) hk (by omega)).mp c24
        refine sw_bipush (pc' := 33) (v := 10) rfl dJ6_stringSize_0f7a4_31 (by decide +kernel) ?_
        refine sw_iload_n (pc' := 34) rfl dJ6_stringSize_0f7a4_33 rfl ?_
        refine sw_imul (pc' := 35) rfl dJ6_stringSize_0f7a4_34 ?_
        rw [show (10 : Int32) * (-10) = -100 by decide +kernel]
        refine sw_istore_n (pc' := 36) (lv' := [(2, _), (3, _), (0, _), (1, _)]) rfl dJ6_stringSize_0f7a4_35 (by decide +kernel) rfl ?_
        refine sw_iinc (pc' := 39) (lv' := [(3, _), (2, _), (0, _), (1, _)]) (v := 2) rfl dJ6_stringSize_0f7a4_36 rfl rfl (by decide +kernel) rfl ?_
        refine sw_goto (tgt := 16) dJ6_stringSize_0f7a4_39 (by decide +kernel) ?_
        refine sw_iload_n (pc' := 17) rfl dJ6_stringSize_0f7a4_16 rfl ?_
        refine sw_bipush (pc' := 19) (v := 10) rfl dJ6_stringSize_0f7a4_17 (by decide +kernel) ?_
        refine sw_icmp_ge (pc' := 22) (tgt := 42) rfl dJ6_stringSize_0f7a4_19 (by decide +kernel) (fun c19 => ?_) (fun c19 => ?_)
        · exact absurd c19 (by decide +kernel)
        · refine sw_iload_n (pc' := 23) rfl dJ6_stringSize_0f7a4_22 rfl ?_
          refine sw_iload_n (pc' := 24) rfl dJ6_stringSize_0f7a4_23 rfl ?_
          refine sw_icmp_le (pc' := 27) (tgt := 31) rfl dJ6_stringSize_0f7a4_24 (by decide +kernel) (fun c24 => ?_) (fun c24 => ?_)
          · exact absurd ((neg_le (L := 100) hk (by omega)).mp c24) (by omega)
          · refine sw_iload_n (pc' := 28) rfl dJ6_stringSize_0f7a4_27 rfl ?_
            refine sw_iload_n (pc' := 29) rfl dJ6_stringSize_0f7a4_28 rfl ?_
            refine sw_iadd (pc' := 30) rfl dJ6_stringSize_0f7a4_29 ?_
            rw [show 2 + 0 = nI (2 + 0) from nI_add _ _]
            refine sw_ret (v := some _) ⟨dJ6_stringSize_0f7a4_30, _, rfl, rfl⟩ ?_
            rw [show dgt k = 2 from if_neg (by omega)]
            exact ⟨rfl, rfl, rfl⟩
      · refine sw_iload_n (pc' := 28) rfl dJ6_stringSize_0f7a4_27 rfl ?_
        refine sw_iload_n (pc' := 29) rfl dJ6_stringSize_0f7a4_28 rfl ?_
        refine sw_iadd (pc' := 30) rfl dJ6_stringSize_0f7a4_29 ?_
        rw [show 1 + 0 = nI (1 + 0) from nI_add _ _]
        refine sw_ret (v := some _) ⟨dJ6_stringSize_0f7a4_30, _, rfl, rfl⟩ ?_
        rw [show dgt k = 1 from if_pos (Nat.lt_of_not_le (fun g => c24 ((neg_le (L := 10) hk (by omega)).mpr g)))]
        exact ⟨rfl, rfl, rfl⟩
/-- bytes are otherwise -/
def BUo (h : AH) (n a m : Nat) (r : Option Value) (E : Nat) (c : List Int32) : ARes → AH → Nat → Prop := fun r' h' n' => r' = .inl r ∧ n' = n ∧ (∃ f, h' a = .inl (2, m, .inl f) ∧ bfit f ∧ Ct f E c) ∧ ∀ i, i ≠ a → h' i = h i
theorem buo_k {A : Nat → AH → Option Value → Prop} {h : AH} {n a m n0 E : Nat} {c : List Int32} {r : Option Value} (k : ∀ h' f, h' a = .inl (2, m, .inl f) → bfit f → Ct f E c → (∀ i, i ≠ a → h' i = h i) → A n h' r) : ∀ (v : Option Value) (h' : AH) (n' : Nat), n0 ≤ n' → BUo h n a m r E c (.inl v) h' n' → A n' h' v := by
  rintro v h' n' - ⟨e, rfl, ⟨f, g1, g2, g4⟩, g3⟩
  cases e
  exact k h' f g1 g2 g4 g3
theorem buo_x {A : Prop} {h : AH} {n a m E0 : Nat} {c : List Int32} {r : Option Value} {E : String} {h' : AH} {n' : Nat} (z : BUo h n a m r E0 c (.inr E) h' n') : A := by cases z.1
theorem gch9c {k : Nat} (hk : k < 100) : (-9 : Int32) ≤ -nI k ↔ k < 10 := by
  have e := neg_le (k := k) (L := 10) hk (by omega)
  constructor
  · intro h
    apply Nat.lt_of_not_le
    intro g
    have h2 := e.mpr g
    exact absurd (Int32.le_trans h h2) (by decide +kernel)
  · intro g
    have h2 : ¬ -nI k ≤ -nI 10 := fun q => absurd (e.mp q) (by omega)
    have h3 : (-nI 10).toInt < (-nI k).toInt := Int32.lt_iff_toInt_lt.mp (Int32.not_le.mp h2)
    have h4 : (-nI 10).toInt = -10 := by decide +kernel
    have h5 : (-9 : Int32).toInt = -9 := by decide +kernel
    rw [Int32.le_iff_toInt_le, h5]
    omega
theorem j_getChars {h : AH} {d bc bs n : Nat} {a m k E N : Nat} {c : List Int32} {f g6 g7 : Nat → Int32} (ha : h a = .inl (2, m, .inl f)) (hf : bfit f) (ha0 : 100 ≤ a) (hg6 : h 6 = .inl (2, 100, .inl g6)) (hg7 : h 7 = .inl (2, 100, .inl g7)) (hk : k < 100) (hE : E ≤ m) (hE9 : E = N + dgt k) (hC : Ct f N c) (hG6 : ∀ k, k < 100 → g6 k = nI (48 + k / 10)) (hG7 : ∀ k, k < 100 → g7 k = nI (48 + k % 10)) (hm : m ≤ 2000) : SM SR0 MJ6_getChars_ba4f3 d bc bs [.int (nI k), .int (nI E), .ref a] h n (BUo h n a m (some (.int (nI (E - dgt k)))) E (c ++ dgL k)) := by
  refine sm_of pn_java_lang_Integer rfl (Nat.le_of_ble_eq_true rfl) ?_
  refine sw_iload_n (pc' := 1) rfl dJ6_getChars_ba4f3_0 rfl ?_
  refine sw_istore (pc' := 3) (lv' := [(5, _), (0, _), (1, _), (2, _)]) rfl dJ6_getChars_ba4f3_1 (by decide +kernel) rfl ?_
  refine sw_iload_n (pc' := 4) rfl dJ6_getChars_ba4f3_3 rfl ?_
  refine sw_if_ge (pc' := 7) (tgt := 11) rfl dJ6_getChars_ba4f3_4 (by decide +kernel) (fun c4 => ?_) (fun c4 => ?_)
  · refine sw_iconst (pc' := 12) (v := 0) rfl dJ6_getChars_ba4f3_11 (by decide +kernel) ?_
    refine sw_istore (pc' := 14) (lv' := [(6, _), (5, _), (0, _), (1, _), (2, _)]) rfl dJ6_getChars_ba4f3_12 (by decide +kernel) rfl ?_
    refine sw_iload (pc' := 16) rfl dJ6_getChars_ba4f3_14 rfl ?_
    refine sw_if_ne (pc' := 19) (tgt := 22) rfl dJ6_getChars_ba4f3_16 (by decide +kernel) (fun c16 => ?_) (fun c16 => ?_)
    · exact absurd c16 (by decide +kernel)
    · refine sw_iload_n (pc' := 20) rfl dJ6_getChars_ba4f3_19 rfl ?_
      refine sw_ineg (pc' := 21) rfl dJ6_getChars_ba4f3_20 ?_
      refine sw_istore_n (pc' := 22) (lv' := [(0, _), (6, _), (5, _), (1, _), (2, _)]) rfl dJ6_getChars_ba4f3_21 (by decide +kernel) rfl ?_
      refine sw_iload_n (pc' := 23) rfl dJ6_getChars_ba4f3_22 rfl ?_
      refine sw_bipush (pc' := 25) (v := (-100)) rfl dJ6_getChars_ba4f3_23 (by decide +kernel) ?_
      refine sw_icmp_gt (pc' := 28) (tgt := 72) rfl dJ6_getChars_ba4f3_25 (by decide +kernel) (fun c25 => ?_) (fun c25 => ?_)
      · have hd1 : 1 ≤ dgt k := by unfold dgt; split <;> omega
        refine sw_aload_n (pc' := 73) rfl dJ6_getChars_ba4f3_72 rfl ?_
        refine sw_iinc (pc' := 76) (lv' := [(5, _), (0, _), (6, _), (1, _), (2, _)]) (v := nI (E - 1)) rfl dJ6_getChars_ba4f3_73 rfl ((i_m1 _).trans (nI_m1 (by omega))) (by decide +kernel) rfl ?_
        refine sw_iload (pc' := 78) rfl dJ6_getChars_ba4f3_76 rfl ?_
        refine sw_gets (pc' := 81) rfl dJ6_getChars_ba4f3_78 (v := .ref 7) (by decide +kernel) w_826 ?_
        refine sw_iload_n (pc' := 82) rfl dJ6_getChars_ba4f3_81 rfl ?_
        refine sw_ineg (pc' := 83) rfl dJ6_getChars_ba4f3_82 ?_
        rw [neg_neg']
        refine sw_bald (j := k) (pc' := 84) rfl dJ6_getChars_ba4f3_83 hg7 rfl (by omega) (by decide +kernel) ?_
        refine sw_bast (j := E - 1) (pc' := 85) rfl dJ6_getChars_ba4f3_84 ha (by show 100 ≤ _; omega) rfl (by omega) (by omega) ?_
        refine sw_nm (fun g1 eg1 => ?_)
        have zg1 := (congrFun eg1 a).trans (up_s (h := h) (i := a))
        refine sw_iload_n (pc' := 86) rfl dJ6_getChars_ba4f3_85 rfl ?_
        refine sw_bipush (pc' := 88) (v := (-9)) rfl dJ6_getChars_ba4f3_86 (by decide +kernel) ?_
        refine sw_icmp_ge (pc' := 91) (tgt := 104) rfl dJ6_getChars_ba4f3_88 (by decide +kernel) (fun c88 => ?_) (fun c88 => ?_)
        · refine sw_iload (pc' := 106) rfl dJ6_getChars_ba4f3_104 rfl ?_
          refine sw_if_eq (pc' := 109) (tgt := 118) rfl dJ6_getChars_ba4f3_106 (by decide +kernel) (fun c106 => ?_) (fun c106 => ?_)
          · refine sw_iload (pc' := 120) rfl dJ6_getChars_ba4f3_118 rfl ?_
            refine sw_ret (v := some _) ⟨dJ6_getChars_ba4f3_120, _, rfl, rfl⟩ ?_
            rw [show dgt k = 1 from if_pos ((gch9c hk).mp c88)]
            have dk : dgt k = 1 := if_pos ((gch9c hk).mp c88)
            exact ⟨rfl, rfl, ⟨_, zg1, bfit_up hf, ct_d1 ((gch9c hk).mp c88) hC (hE9.trans (congrArg (N + ·) dk)) (hG7 k hk)⟩, fun i h1 => (congrFun eg1 i).trans ((up_n h1).trans (rfl))⟩
          · exact absurd c106 (by decide +kernel)
        · have k10 : ¬ k < 10 := fun g => c88 ((gch9c hk).mpr g)
          have hd2 : dgt k = 2 := if_neg k10
          refine sw_aload_n (pc' := 92) rfl dJ6_getChars_ba4f3_91 rfl ?_
          refine sw_iinc (pc' := 95) (lv' := [(5, _), (0, _), (6, _), (1, _), (2, _)]) (v := nI (E - 1 - 1)) rfl dJ6_getChars_ba4f3_92 rfl ((i_m1 _).trans (nI_m1 (by omega))) (by decide +kernel) rfl ?_
          refine sw_iload (pc' := 97) rfl dJ6_getChars_ba4f3_95 rfl ?_
          refine sw_gets (pc' := 100) rfl dJ6_getChars_ba4f3_97 (v := .ref 6) (by decide +kernel) w_828 ?_
          refine sw_iload_n (pc' := 101) rfl dJ6_getChars_ba4f3_100 rfl ?_
          refine sw_ineg (pc' := 102) rfl dJ6_getChars_ba4f3_101 ?_
          rw [neg_neg']
          refine sw_bald (j := k) (pc' := 103) rfl dJ6_getChars_ba4f3_102 (((congrFun eg1 6).trans (up_n (by omega))).trans hg6) rfl (by omega) (by decide +kernel) ?_
          refine sw_bast (j := E - 1 - 1) (pc' := 104) rfl dJ6_getChars_ba4f3_103 zg1 (by show 100 ≤ _; omega) rfl (by omega) (by omega) ?_
          refine sw_nm (fun g2 eg2 => ?_)
          have zg2 := (congrFun eg2 a).trans (up_s (h := g1) (i := a))
          refine sw_iload (pc' := 106) rfl dJ6_getChars_ba4f3_104 rfl ?_
          refine sw_if_eq (pc' := 109) (tgt := 118) rfl dJ6_getChars_ba4f3_106 (by decide +kernel) (fun c106 => ?_) (fun c106 => ?_)
          · refine sw_iload (pc' := 120) rfl dJ6_getChars_ba4f3_118 rfl ?_
            refine sw_ret (v := some _) ⟨dJ6_getChars_ba4f3_120, _, rfl, rfl⟩ ?_
            rw [show dgt k = 2 from if_neg (fun g => c88 ((gch9c hk).mpr g))]
            have dk : dgt k = 2 := if_neg (fun g => c88 ((gch9c hk).mpr g))
            exact ⟨rfl, rfl, ⟨_, zg2, bfit_up (bfit_up hf), ct_d2 (fun g => c88 ((gch9c hk).mpr g)) hk hC (hE9.trans (congrArg (N + ·) dk)) (hG7 k hk) (hG6 k hk)⟩, fun i h1 => (congrFun eg2 i).trans ((up_n h1).trans ((congrFun eg1 i).trans ((up_n h1).trans (rfl))))⟩
          · exact absurd c106 (by decide +kernel)
      · exact absurd ((neg_le (L := 100) hk (by omega)).mp (Int32.not_lt.mp c25)) (by omega)
  · exact absurd (nI_pos' (by omega)) c4
theorem j_appendI5 {h : AH} {d bc bs n : Nat} {n1 n0 b N m k : Nat} {c : List Int32} (hS : SbF h n1 n0 b N m c) (hn1 : n1 ≤ n) (h0 : 100 ≤ n0) (hm : m ≤ 2000) (hT : TXT h) (hk : k < 100) (hN : N + 2 ≤ 1000) (hd : 5 ≤ d) (h1 : 1 ≤ bc) (h2 : grC m (N + dgt k) ≤ bs) : SM SR0 MJ5_append_c97b9 d bc bs [.ref b, .int (nI k)] h n (SBo h n n1 n0 b (N + dgt k) (capN m (N + dgt k)) (c ++ dgL k) (some (.ref b))) := by
  obtain ⟨a0, f0, fl0, hS0, -⟩ := id hS
  have hbb := hS.lt
  have hrm := hS.rm
  refine sm_of pn_java_lang_AbstractStringBuilder rfl (Nat.le_of_ble_eq_true rfl) ?_
  refine sw_aload_n (pc' := 1) rfl dJ5_append_c97b9_0 rfl ?_
  refine sw_getf (ci := 1) (k := 3) (pc' := 4) rfl dJ5_append_c97b9_1 (by decide +kernel) w_702 hS0 rfl ?_
  refine sw_istore_n (pc' := 5) (lv' := [(2, _), (0, _), (1, _)]) rfl dJ5_append_c97b9_4 (by decide +kernel) rfl ?_
  refine sw_iload_n (pc' := 6) rfl dJ5_append_c97b9_5 rfl ?_
  refine sw_iload_n (pc' := 7) rfl dJ5_append_c97b9_6 rfl ?_
  refine sw_S (M' := MJ6_stringSize_0f7a4) (d' := d - 1) (bc' := 0) (bs' := 0) (as := [_]) dJ5_append_c97b9_7 w_820 ok_J6_stringSize_0f7a4 (j_stringSize hk) (by omega) (Nat.le_of_ble_eq_true rfl) (Nat.zero_le _) (Nat.zero_le _) (fun E h' n' _ z => det_x z) (det_k ?_)
  have hdg : 1 ≤ dgt k ∧ dgt k ≤ 2 := by unfold dgt; split <;> omega
  refine sw_iadd (pc' := 11) rfl dJ5_append_c97b9_10 ?_
  rw [show (nI N) + (nI (dgt k)) = nI (N + dgt k) from nI_add _ _]
  refine sw_istore_n (pc' := 12) (lv' := [(3, _), (2, _), (0, _), (1, _)]) rfl dJ5_append_c97b9_11 (by decide +kernel) rfl ?_
  refine sw_aload_n (pc' := 13) rfl dJ5_append_c97b9_12 rfl ?_
  refine sw_iload_n (pc' := 14) rfl dJ5_append_c97b9_13 rfl ?_
  refine sw_callU (M' := MJ5_ensureCapacityInternal_d00df) (x := ({ cls := "java/lang/AbstractStringBuilder", name := "ensureCapacityInternal", desc := "(I)V" } : Jvm.MethodName)) (d' := d - 1) (bc' := 1) (bs' := (grC m (N + dgt k))) (ci := 1) (as := [_]) dJ5_append_c97b9_14 w_722 w_1495 rfl w_724 w_1506 w_53 (by unfold cwM; exact w_725) (by decide +kernel) (show _ = some 1 by decide +kernel) rfl (by omega) (by decide +kernel) (j_ensure hS hn1 h0 (by omega) (by omega) hm (by omega) (by omega) (Nat.le_refl _)) hS0 (Nat.le_of_ble_eq_true rfl) (by omega) (by omega) (seo_k (fun p pn pk pS pF => ?_)) (fun E h' n' _ z => seo_x z)
  obtain ⟨pa, pf, pfl, pb, ph, pfit, pNm, pa0, pan, pb0, pbn, pba, pax, pC⟩ := id pS
  obtain ⟨-, hp1, hp2, hp3⟩ := pot (m := m) (q := N + dgt k) (K := 2000) (by omega) (by omega)
  refine sw_aload_n (pc' := 18) rfl dJ5_append_c97b9_17 rfl ?_
  refine sw_callU (M' := MJ5_isLatin1_aae02) (x := ({ cls := "java/lang/AbstractStringBuilder", name := "isLatin1", desc := "()Z" } : Jvm.MethodName)) (d' := d - 1) (bc' := 0) (bs' := 0) (ci := 1) (as := []) dJ5_append_c97b9_18 w_757 w_759 rfl w_758 w_760 w_53 (by unfold cwM; exact w_761) (by decide +kernel) (show _ = some 0 by decide +kernel) rfl (by omega) (by decide +kernel) (j_isLatin1 pb) pb (Nat.le_of_ble_eq_true rfl) (Nat.zero_le _) (Nat.zero_le _) (det_k ?_) (fun E h' n' _ z => det_x z)
  refine sw_if_eq (pc' := 24) (tgt := 37) rfl dJ5_append_c97b9_21 (by decide +kernel) (fun c21 => ?_) (fun c21 => ?_)
  · exact absurd c21 (by decide +kernel)
  · refine sw_iload_n (pc' := 25) rfl dJ5_append_c97b9_24 rfl ?_
    refine sw_iload_n (pc' := 26) rfl dJ5_append_c97b9_25 rfl ?_
    refine sw_aload_n (pc' := 27) rfl dJ5_append_c97b9_26 rfl ?_
    refine sw_getf (ci := 1) (k := 0) (pc' := 30) rfl dJ5_append_c97b9_27 (by decide +kernel) w_699 pb rfl ?_
    obtain ⟨⟨g6, hg6, hG6⟩, ⟨g7, hg7, hG7⟩, -⟩ := id hT
    refine sw_S (M' := MJ6_getChars_ba4f3) (d' := d - 1) (bc' := 0) (bs' := 0) (as := [_, _, _]) dJ5_append_c97b9_30 w_823 ok_J6_getChars_ba4f3 (j_getChars (k := k) (E := N + dgt k) (N := N) ph pfit (by omega) ((pF 6 (by omega)).trans hg6) ((pF 7 (by omega)).trans hg7) hk (by omega) rfl pC hG6 hG7 (by omega)) (by omega) (Nat.le_of_ble_eq_true rfl) (Nat.zero_le _) (Nat.zero_le _) (fun E h' n' _ z => buo_x z) (buo_k (fun q qf9 qN qfit9 qC9 qF9 => ?_))
    refine sw_pop (pc' := 34) rfl dJ5_append_c97b9_33 rfl ?_
    refine sw_goto (tgt := 48) dJ5_append_c97b9_34 (by decide +kernel) ?_
    refine sw_aload_n (pc' := 49) rfl dJ5_append_c97b9_48 rfl ?_
    refine sw_iload_n (pc' := 50) rfl dJ5_append_c97b9_49 rfl ?_
    refine sw_putf (ci := 1) (k := 3) (pc' := 53) rfl dJ5_append_c97b9_50 (by decide +kernel) (by decide +kernel) w_702 rfl ((qF9 b pba).trans pb) (by show 100 ≤ _; omega) (Nat.le_of_ble_eq_true rfl) rfl rfl ?_
    refine sw_nm (fun g1 eg1 => ?_)
    have zg1 := (congrFun eg1 b).trans (up_s (h := q) (i := b))
    refine sw_aload_n (pc' := 54) rfl dJ5_append_c97b9_53 rfl ?_
    refine sw_ret (v := some _) ⟨dJ5_append_c97b9_54, _, rfl, Or.inl ⟨_, rfl⟩⟩ ?_
    exact ⟨rfl, pk, ⟨pa, qf9, pfl, zg1, (congrFun eg1 pa).trans ((up_n (by omega)).trans (qN)), qfit9, by omega, pa0, pan, pb0, pbn, pba, qC9⟩, fun i hi => (congrFun eg1 i).trans ((up_n (by omega)).trans ((qF9 i (by omega)).trans (pF i hi)))⟩
theorem j_appendI {h : AH} {d bc bs n : Nat} {n1 n0 b N m k : Nat} {c : List Int32} (hS : SbF h n1 n0 b N m c) (hn1 : n1 ≤ n) (h0 : 100 ≤ n0) (hm : m ≤ 2000) (hT : TXT h) (hk : k < 100) (hN : N + 2 ≤ 1000) (hd : 6 ≤ d) (h1 : 1 ≤ bc) (h2 : grC m (N + dgt k) ≤ bs) : SM SR0 MJ4_append_bf812 d bc bs [.ref b, .int (nI k)] h n (SBo h n n1 n0 b (N + dgt k) (capN m (N + dgt k)) (c ++ dgL k) (some (.ref b))) := by
  obtain ⟨a0, f0, fl0, hS0, -⟩ := id hS
  have hbb := hS.lt
  have hrm := hS.rm
  refine sm_of pn_java_lang_StringBuilder rfl (Nat.le_of_ble_eq_true rfl) ?_
  refine sw_aload_n (pc' := 1) rfl dJ4_append_bf812_0 rfl ?_
  refine sw_iload_n (pc' := 2) rfl dJ4_append_bf812_1 rfl ?_
  refine sw_callSU (M' := MJ5_append_c97b9) (d' := d - 1) (bc' := 1) (bs' := (grC m (N + dgt k))) (ci := 1) (as := [_]) dJ4_append_bf812_2 w_817 w_1498 (by decide +kernel) (by decide +kernel) w_818 w_711 w_53 (by unfold cwM; exact w_819) (show _ = some 1 by decide +kernel) rfl (by omega) (by decide +kernel) (j_appendI5 hS hn1 h0 hm hT hk hN (by omega) (by omega) (Nat.le_refl _)) hS0 (Nat.le_of_ble_eq_true rfl) (by omega) (by omega) (sbo_k (fun p pn pk pS pF => ?_)) (fun E h' n' _ z => sbo_x z)
  refine sw_pop (pc' := 6) rfl dJ4_append_bf812_5 rfl ?_
  refine sw_aload_n (pc' := 7) rfl dJ4_append_bf812_6 rfl ?_
  refine sw_ret (v := some _) ⟨dJ4_append_bf812_7, _, rfl, Or.inl ⟨_, rfl⟩⟩ ?_
  exact ⟨rfl, pk, pS, pF⟩
theorem j_coder {h : AH} {d bc bs n : Nat} {t v : Nat} {rv : List Value} (ht : h t = .inr (0, .ref v :: .int 0 :: rv)) : SM SR0 MJ0_coder_7d493 d bc bs [.ref t] h n (Det (rI (0)) h n) := by
  refine sm_of pn_java_lang_String rfl (Nat.le_of_ble_eq_true rfl) ?_
  refine sw_gets (pc' := 3) rfl dJ0_coder_7d493_0 (v := .int 1) (by decide +kernel) w_910 ?_
  refine sw_if_eq (pc' := 6) (tgt := 13) rfl dJ0_coder_7d493_3 (by decide +kernel) (fun c3 => ?_) (fun c3 => ?_)
  · exact absurd c3 (by decide +kernel)
  · refine sw_aload_n (pc' := 7) rfl dJ0_coder_7d493_6 rfl ?_
    refine sw_getf (ci := 0) (k := 1) (pc' := 10) rfl dJ0_coder_7d493_7 (by decide +kernel) w_942 ht rfl ?_
    refine sw_goto (tgt := 14) dJ0_coder_7d493_10 (by decide +kernel) ?_
    refine sw_ret (v := some _) ⟨dJ0_coder_7d493_14, _, rfl, rfl⟩ ?_
    exact ⟨rfl, rfl, rfl⟩
theorem j_slen {h : AH} {d bc bs n : Nat} {t L m0 : Nat} {c : List Int32} (hU : StF h m0 t L c) (hd : 1 ≤ d) : SM SR0 MJ0_length_8abf5 d bc bs [.ref t] h n (Det (rI (nI L)) h n) := by
  obtain ⟨v, fv, rv, ht, hv, hfv, htn, hvn, hCv⟩ := hU
  refine sm_of pn_java_lang_String rfl (Nat.le_of_ble_eq_true rfl) ?_
  refine sw_aload_n (pc' := 1) rfl dJ0_length_8abf5_0 rfl ?_
  refine sw_getf (ci := 0) (k := 0) (pc' := 4) rfl dJ0_length_8abf5_1 (by decide +kernel) w_941 ht rfl ?_
  refine sw_alen (pc' := 5) rfl dJ0_length_8abf5_4 hv (by decide +kernel) (Or.inr ⟨by decide +kernel, _, rfl⟩) ?_
  refine sw_aload_n (pc' := 6) rfl dJ0_length_8abf5_5 rfl ?_
  refine sw_V (M' := MJ0_coder_7d493) (d' := d - 1) (bc' := 0) (bs' := 0) (ci := 0) (as := []) dJ0_length_8abf5_6 w_906 ok_J0_coder_7d493 (j_coder ht) ht rfl (by omega) (Nat.le_of_ble_eq_true rfl) (Nat.zero_le _) (Nat.zero_le _) (fun E h' n' _ z => det_x z) (det_k ?_)
  refine sw_ishr (pc' := 10) rfl dJ0_length_8abf5_9 ?_
  rw [shr0]
  refine sw_ret (v := some _) ⟨dJ0_length_8abf5_10, _, rfl, rfl⟩ ?_
  exact ⟨rfl, rfl, rfl⟩
theorem j_sempty {h : AH} {d bc bs n : Nat} {t L m0 : Nat} {c : List Int32} (hU : StF h m0 t L c) (hL : L ≤ 2000) : SM SR0 MJ0_isEmpty_aae02 d bc bs [.ref t] h n (Det (rI (bI (decide (L = 0)))) h n) := by
  obtain ⟨v, fv, rv, ht, hv, hfv, htn, hvn, hCv⟩ := hU
  refine sm_of pn_java_lang_String rfl (Nat.le_of_ble_eq_true rfl) ?_
  refine sw_aload_n (pc' := 1) rfl dJ0_isEmpty_aae02_0 rfl ?_
  refine sw_getf (ci := 0) (k := 0) (pc' := 4) rfl dJ0_isEmpty_aae02_1 (by decide +kernel) w_941 ht rfl ?_
  refine sw_alen (pc' := 5) rfl dJ0_isEmpty_aae02_4 hv (by decide +kernel) (Or.inr ⟨by decide +kernel, _, rfl⟩) ?_
  refine sw_if_ne (pc' := 8) (tgt := 12) rfl dJ0_isEmpty_aae02_5 (by decide +kernel) (fun c5 => ?_) (fun c5 => ?_)
  · refine sw_iconst (pc' := 13) (v := 0) rfl dJ0_isEmpty_aae02_12 (by decide +kernel) ?_
    refine sw_ret (v := some _) ⟨dJ0_isEmpty_aae02_13, _, rfl, rfl⟩ ?_
    rw [decide_eq_false (fun e => c5 (by rw [e]; rfl))]
    exact ⟨rfl, rfl, rfl⟩
  · refine sw_iconst (pc' := 9) (v := 1) rfl dJ0_isEmpty_aae02_8 (by decide +kernel) ?_
    refine sw_goto (tgt := 13) dJ0_isEmpty_aae02_9 (by decide +kernel) ?_
    refine sw_ret (v := some _) ⟨dJ0_isEmpty_aae02_13, _, rfl, rfl⟩ ?_
    rw [decide_eq_true ((nI_eq (b := 0) (by omega) (by decide +kernel)).mp c5)]
    exact ⟨rfl, rfl, rfl⟩
theorem j_inflate {h : AH} {d bc bs n : Nat} {b t a v : Nat} {fl x : Int32} {rv : List Value} (hb : h b = .inr (1, [.ref a, .int 0, .int fl, .int x])) (ht : h t = .inr (0, .ref v :: .int 0 :: rv)) (hd : 1 ≤ d) : SM SR0 MJ5_inflateIfNeededFor_a7421 d bc bs [.ref b, .ref t] h n (Det ivN h n) := by
  refine sm_of pn_java_lang_AbstractStringBuilder rfl (Nat.le_of_ble_eq_true rfl) ?_
  refine sw_gets (pc' := 3) rfl dJ5_inflateIfNeededFor_a7421_0 (v := .int 1) (by decide +kernel) w_690 ?_
  refine sw_if_eq (pc' := 6) (tgt := 21) rfl dJ5_inflateIfNeededFor_a7421_3 (by decide +kernel) (fun c3 => ?_) (fun c3 => ?_)
  · exact absurd c3 (by decide +kernel)
  · refine sw_aload_n (pc' := 7) rfl dJ5_inflateIfNeededFor_a7421_6 rfl ?_
    refine sw_getf (ci := 1) (k := 1) (pc' := 10) rfl dJ5_inflateIfNeededFor_a7421_7 (by decide +kernel) w_700 hb rfl ?_
    refine sw_aload_n (pc' := 11) rfl dJ5_inflateIfNeededFor_a7421_10 rfl ?_
    refine sw_V (M' := MJ0_coder_7d493) (d' := d - 1) (bc' := 0) (bs' := 0) (ci := 0) (as := []) dJ5_inflateIfNeededFor_a7421_11 w_919 ok_J0_coder_7d493 (j_coder ht) ht rfl (by omega) (Nat.le_of_ble_eq_true rfl) (Nat.zero_le _) (Nat.zero_le _) (fun E h' n' _ z => det_x z) (det_k ?_)
    refine sw_icmp_eq (pc' := 17) (tgt := 21) rfl dJ5_inflateIfNeededFor_a7421_14 (by decide +kernel) (fun c14 => ?_) (fun c14 => ?_)
    · refine sw_ret (v := none) ⟨dJ5_inflateIfNeededFor_a7421_21, rfl⟩ ?_
      exact ⟨rfl, rfl, rfl⟩
    · exact absurd c14 (by decide +kernel)
theorem j_getBytes {h : AH} {d bc bs n : Nat} {a v t m L N : Nat} {c e : List Int32} {f fv : Nat → Int32} {rv : List Value} (ht : h t = .inr (0, .ref v :: .int 0 :: rv)) (hv : h v = .inl (2, L, .inl fv)) (hfv : bfit fv) (ha : h a = .inl (2, m, .inl f)) (hf : bfit f) (ha0 : 100 ≤ a) (hNL : N + L ≤ m) (hm : m ≤ 2000) (hC : Ct f N c) (hCv : Ct fv L e) (hd : 1 ≤ d) : SM SR0 MJ0_getBytes_840e7 d bc bs [.ref t, .ref a, .int (nI N), .int 0] h n (BUo h n a m none (N + L) (c ++ e)) := by
  refine sm_of pn_java_lang_String rfl (Nat.le_of_ble_eq_true rfl) ?_
  refine sw_aload_n (pc' := 1) rfl dJ0_getBytes_840e7_0 rfl ?_
  refine sw_V (M' := MJ0_coder_7d493) (d' := d - 1) (bc' := 0) (bs' := 0) (ci := 0) (as := []) dJ0_getBytes_840e7_1 w_906 ok_J0_coder_7d493 (j_coder ht) ht rfl (by omega) (Nat.le_of_ble_eq_true rfl) (Nat.zero_le _) (Nat.zero_le _) (fun E h' n' _ z => det_x z) (det_k ?_)
  refine sw_iload_n (pc' := 5) rfl dJ0_getBytes_840e7_4 rfl ?_
  refine sw_icmp_ne (pc' := 8) (tgt := 28) rfl dJ0_getBytes_840e7_5 (by decide +kernel) (fun c5 => ?_) (fun c5 => ?_)
  · exact absurd c5 (by decide +kernel)
  · refine sw_aload_n (pc' := 9) rfl dJ0_getBytes_840e7_8 rfl ?_
    refine sw_getf (ci := 0) (k := 0) (pc' := 12) rfl dJ0_getBytes_840e7_9 (by decide +kernel) w_941 ht rfl ?_
    refine sw_iconst (pc' := 13) (v := 0) rfl dJ0_getBytes_840e7_12 (by decide +kernel) ?_
    refine sw_aload_n (pc' := 14) rfl dJ0_getBytes_840e7_13 rfl ?_
    refine sw_iload_n (pc' := 15) rfl dJ0_getBytes_840e7_14 rfl ?_
    refine sw_iload_n (pc' := 16) rfl dJ0_getBytes_840e7_15 rfl ?_
    refine sw_ishl (pc' := 17) rfl dJ0_getBytes_840e7_16 ?_
    rw [shl0]
    refine sw_aload_n (pc' := 18) rfl dJ0_getBytes_840e7_17 rfl ?_
    refine sw_getf (ci := 0) (k := 0) (pc' := 21) rfl dJ0_getBytes_840e7_18 (by decide +kernel) w_941 ht rfl ?_
    refine sw_alen (pc' := 22) rfl dJ0_getBytes_840e7_21 hv (by decide +kernel) (Or.inr ⟨by decide +kernel, _, rfl⟩) ?_
    refine sw_copyB (pc' := 25) (sp := 0) (dp := N) (k := L) rfl dJ0_getBytes_840e7_22 w_924 w_756 w_755 w_59 hv ha (by show 100 ≤ _; omega) hfv (by omega) (by omega) rfl rfl rfl (by omega) (by omega) (Nat.le_of_ble_eq_true rfl) ?_
    refine sw_nm (fun g1 eg1 => ?_)
    have zg1 := (congrFun eg1 a).trans (up_s (h := h) (i := a))
    refine sw_goto (tgt := 43) dJ0_getBytes_840e7_25 (by decide +kernel) ?_
    refine sw_ret (v := none) ⟨dJ0_getBytes_840e7_43, rfl⟩ ?_
    exact ⟨rfl, rfl, ⟨_, zg1, bfit_cpy hfv hf, hC.cpy hCv⟩, fun i h1 => (congrFun eg1 i).trans ((up_n h1).trans (rfl))⟩
theorem j_putStringAt {h : AH} {d bc bs n : Nat} {b a v t m L N : Nat} {c e : List Int32} {f fv : Nat → Int32} {rv : List Value} {fl x : Int32} (hb : h b = .inr (1, [.ref a, .int 0, .int fl, .int x])) (ht : h t = .inr (0, .ref v :: .int 0 :: rv)) (hv : h v = .inl (2, L, .inl fv)) (hfv : bfit fv) (ha : h a = .inl (2, m, .inl f)) (hf : bfit f) (ha0 : 100 ≤ a) (hNL : N + L ≤ m) (hm : m ≤ 2000) (hC : Ct f N c) (hCv : Ct fv L e) (hd : 3 ≤ d) : SM SR0 MJ5_putStringAt_47b60 d bc bs [.ref b, .int (nI N), .ref t] h n (BUo h n a m none (N + L) (c ++ e)) := by
  refine sm_of pn_java_lang_AbstractStringBuilder rfl (Nat.le_of_ble_eq_true rfl) ?_
  refine sw_aload_n (pc' := 1) rfl dJ5_putStringAt_47b60_0 rfl ?_
  refine sw_aload_n (pc' := 2) rfl dJ5_putStringAt_47b60_1 rfl ?_
  refine sw_callU (M' := MJ5_inflateIfNeededFor_a7421) (x := ({ cls := "java/lang/AbstractStringBuilder", name := "inflateIfNeededFor", desc := "(Ljava/lang/String;)V" } : Jvm.MethodName)) (d' := d - 1) (bc' := 0) (bs' := 0) (ci := 1) (as := [_]) dJ5_putStringAt_47b60_2 w_915 w_1502 rfl w_917 w_1511 w_53 (by unfold cwM; exact w_918) (by decide +kernel) (show _ = some 1 by decide +kernel) rfl (by omega) (by decide +kernel) (j_inflate hb ht (by omega)) hb (Nat.le_of_ble_eq_true rfl) (Nat.zero_le _) (Nat.zero_le _) (det_k ?_) (fun E h' n' _ z => det_x z)
  refine sw_aload_n (pc' := 6) rfl dJ5_putStringAt_47b60_5 rfl ?_
  refine sw_aload_n (pc' := 7) rfl dJ5_putStringAt_47b60_6 rfl ?_
  refine sw_getf (ci := 1) (k := 0) (pc' := 10) rfl dJ5_putStringAt_47b60_7 (by decide +kernel) w_699 hb rfl ?_
  refine sw_iload_n (pc' := 11) rfl dJ5_putStringAt_47b60_10 rfl ?_
  refine sw_aload_n (pc' := 12) rfl dJ5_putStringAt_47b60_11 rfl ?_
  refine sw_getf (ci := 1) (k := 1) (pc' := 15) rfl dJ5_putStringAt_47b60_12 (by decide +kernel) w_700 hb rfl ?_
  refine sw_V (M' := MJ0_getBytes_840e7) (d' := d - 1) (bc' := 0) (bs' := 0) (ci := 0) (as := [_, _, _]) dJ5_putStringAt_47b60_15 w_920 ok_J0_getBytes_840e7 (j_getBytes (N := N) ht hv hfv ha hf ha0 hNL hm hC hCv (by omega)) ht rfl (by omega) (Nat.le_of_ble_eq_true rfl) (Nat.zero_le _) (Nat.zero_le _) (fun E h' n' _ z => buo_x z) (buo_k (fun q qf9 qN qfit9 qC9 qF9 => ?_))
  refine sw_ret (v := none) ⟨dJ5_putStringAt_47b60_18, rfl⟩ ?_
  exact ⟨rfl, rfl, ⟨_, qN, qfit9, qC9⟩, qF9⟩
theorem j_appendS5 {h : AH} {d bc bs n : Nat} {n1 n0 b N m t L : Nat} {c e : List Int32} (hS : SbF h n1 n0 b N m c) (hn1 : n1 ≤ n) (h0 : 100 ≤ n0) (hm : m ≤ 2000) (hU : StK h n n1 n0 t L e) (hN : N + L ≤ 1000) (hd : 6 ≤ d) (h1 : 1 ≤ bc) (h2 : grC m (N + L) ≤ bs) : SM SR0 MJ5_append_cf1ce d bc bs [.ref b, .ref t] h n (SBo h n n1 n0 b (N + L) (capN m (N + L)) (c ++ e) (some (.ref b))) := by
  obtain ⟨a0, f0, fl0, hS0, -⟩ := id hS
  have hbb := hS.lt
  have hrm := hS.rm
  obtain ⟨v, fv, rv, ht, hv, hfv, htn, hvn, hCv⟩ := hU
  refine sm_of pn_java_lang_AbstractStringBuilder rfl (Nat.le_of_ble_eq_true rfl) ?_
  refine sw_aload_n (pc' := 1) rfl dJ5_append_cf1ce_0 rfl ?_
  refine sw_ifnonnull (tgt := 9) dJ5_append_cf1ce_1 (by decide +kernel) ?_
  refine sw_aload_n (pc' := 10) rfl dJ5_append_cf1ce_9 rfl ?_
  refine sw_V (M' := MJ0_length_8abf5) (d' := d - 1) (bc' := 0) (bs' := 0) (ci := 0) (as := []) dJ5_append_cf1ce_10 w_902 ok_J0_length_8abf5 (j_slen (m0 := n) ⟨v, fv, rv, ht, hv, hfv, by omega, by omega, hCv⟩ (by omega)) ht rfl (by omega) (Nat.le_of_ble_eq_true rfl) (Nat.zero_le _) (Nat.zero_le _) (fun E h' n' _ z => det_x z) (det_k ?_)
  refine sw_istore_n (pc' := 14) (lv' := [(2, _), (0, _), (1, _)]) rfl dJ5_append_cf1ce_13 (by decide +kernel) rfl ?_
  refine sw_aload_n (pc' := 15) rfl dJ5_append_cf1ce_14 rfl ?_
  refine sw_aload_n (pc' := 16) rfl dJ5_append_cf1ce_15 rfl ?_
  refine sw_getf (ci := 1) (k := 3) (pc' := 19) rfl dJ5_append_cf1ce_16 (by decide +kernel) w_702 hS0 rfl ?_
  refine sw_iload_n (pc' := 20) rfl dJ5_append_cf1ce_19 rfl ?_
  refine sw_iadd (pc' := 21) rfl dJ5_append_cf1ce_20 ?_
  rw [show (nI N) + (nI L) = nI (N + L) from nI_add _ _]
  refine sw_callU (M' := MJ5_ensureCapacityInternal_d00df) (x := ({ cls := "java/lang/AbstractStringBuilder", name := "ensureCapacityInternal", desc := "(I)V" } : Jvm.MethodName)) (d' := d - 1) (bc' := 1) (bs' := (grC m (N + L))) (ci := 1) (as := [_]) dJ5_append_cf1ce_21 w_722 w_1495 rfl w_724 w_1506 w_53 (by unfold cwM; exact w_725) (by decide +kernel) (show _ = some 1 by decide +kernel) rfl (by omega) (by decide +kernel) (j_ensure hS hn1 h0 (by omega) (by omega) hm (by omega) (by omega) (Nat.le_refl _)) hS0 (Nat.le_of_ble_eq_true rfl) (by omega) (by omega) (seo_k (fun p pn pk pS pF => ?_)) (fun E h' n' _ z => seo_x z)
  obtain ⟨pa, pf, pfl, pb, ph, pfit, pNm, pa0, pan, pb0, pbn, pba, pax, pC⟩ := id pS
  obtain ⟨-, hp1, hp2, hp3⟩ := pot (m := m) (q := N + L) (K := 2000) (by omega) (by omega)
  refine sw_aload_n (pc' := 25) rfl dJ5_append_cf1ce_24 rfl ?_
  refine sw_aload_n (pc' := 26) rfl dJ5_append_cf1ce_25 rfl ?_
  refine sw_getf (ci := 1) (k := 3) (pc' := 29) rfl dJ5_append_cf1ce_26 (by decide +kernel) w_702 pb rfl ?_
  refine sw_aload_n (pc' := 30) rfl dJ5_append_cf1ce_29 rfl ?_
  refine sw_callU (M' := MJ5_putStringAt_47b60) (x := ({ cls := "java/lang/AbstractStringBuilder", name := "putStringAt", desc := "(ILjava/lang/String;)V" } : Jvm.MethodName)) (d' := d - 1) (bc' := 0) (bs' := 0) (ci := 1) (as := [_, _]) dJ5_append_cf1ce_30 w_911 w_1501 rfl w_913 w_1510 w_53 (by unfold cwM; exact w_914) (by decide +kernel) (show _ = some 2 by decide +kernel) rfl (by omega) (by decide +kernel) (j_putStringAt (N := N) pb ((pF t htn).trans ht) ((pF v hvn).trans hv) hfv ph pfit (by omega) (by omega) (by omega) pC hCv (by omega)) pb (Nat.le_of_ble_eq_true rfl) (Nat.zero_le _) (Nat.zero_le _) (buo_k (fun q qf9 qN qfit9 qC9 qF9 => ?_)) (fun E h' n' _ z => buo_x z)
  refine sw_aload_n (pc' := 34) rfl dJ5_append_cf1ce_33 rfl ?_
  refine sw_dup (pc' := 35) rfl dJ5_append_cf1ce_34 rfl ?_
  refine sw_getf (ci := 1) (k := 3) (pc' := 38) rfl dJ5_append_cf1ce_35 (by decide +kernel) w_702 ((qF9 b pba).trans pb) rfl ?_
  refine sw_iload_n (pc' := 39) rfl dJ5_append_cf1ce_38 rfl ?_
  refine sw_iadd (pc' := 40) rfl dJ5_append_cf1ce_39 ?_
  rw [show (nI N) + (nI L) = nI (N + L) from nI_add _ _]
  refine sw_putf (ci := 1) (k := 3) (pc' := 43) rfl dJ5_append_cf1ce_40 (by decide +kernel) (by decide +kernel) w_702 rfl ((qF9 b pba).trans pb) (by show 100 ≤ _; omega) (Nat.le_of_ble_eq_true rfl) rfl rfl ?_
  refine sw_nm (fun g1 eg1 => ?_)
  have zg1 := (congrFun eg1 b).trans (up_s (h := q) (i := b))
  refine sw_aload_n (pc' := 44) rfl dJ5_append_cf1ce_43 rfl ?_
  refine sw_ret (v := some _) ⟨dJ5_append_cf1ce_44, _, rfl, Or.inl ⟨_, rfl⟩⟩ ?_
  exact ⟨rfl, pk, ⟨pa, qf9, pfl, zg1, (congrFun eg1 pa).trans ((up_n (by omega)).trans (qN)), qfit9, by omega, pa0, pan, pb0, pbn, pba, qC9⟩, fun i hi => (congrFun eg1 i).trans ((up_n (by omega)).trans ((qF9 i (by omega)).trans (pF i hi)))⟩
theorem j_appendS {h : AH} {d bc bs n : Nat} {n1 n0 b N m t L : Nat} {c e : List Int32} (hS : SbF h n1 n0 b N m c) (hn1 : n1 ≤ n) (h0 : 100 ≤ n0) (hm : m ≤ 2000) (hU : StK h n n1 n0 t L e) (hN : N + L ≤ 1000) (hd : 7 ≤ d) (h1 : 1 ≤ bc) (h2 : grC m (N + L) ≤ bs) : SM SR0 MJ4_append_15ec4 d bc bs [.ref b, .ref t] h n (SBo h n n1 n0 b (N + L) (capN m (N + L)) (c ++ e) (some (.ref b))) := by
  obtain ⟨a0, f0, fl0, hS0, -⟩ := id hS
  have hbb := hS.lt
  have hrm := hS.rm
  refine sm_of pn_java_lang_StringBuilder rfl (Nat.le_of_ble_eq_true rfl) ?_
  refine sw_aload_n (pc' := 1) rfl dJ4_append_15ec4_0 rfl ?_
  refine sw_aload_n (pc' := 2) rfl dJ4_append_15ec4_1 rfl ?_
  refine sw_callSU (M' := MJ5_append_cf1ce) (d' := d - 1) (bc' := 1) (bs' := (grC m (N + L))) (ci := 1) (as := [_]) dJ4_append_15ec4_2 w_892 w_1499 (by decide +kernel) (by decide +kernel) w_893 w_711 w_53 (by unfold cwM; exact w_894) (show _ = some 1 by decide +kernel) rfl (by omega) (by decide +kernel) (j_appendS5 hS hn1 h0 hm hU hN (by omega) (by omega) (Nat.le_refl _)) hS0 (Nat.le_of_ble_eq_true rfl) (by omega) (by omega) (sbo_k (fun p pn pk pS pF => ?_)) (fun E h' n' _ z => sbo_x z)
  refine sw_pop (pc' := 6) rfl dJ4_append_15ec4_5 rfl ?_
  refine sw_aload_n (pc' := 7) rfl dJ4_append_15ec4_6 rfl ?_
  refine sw_ret (v := some _) ⟨dJ4_append_15ec4_7, _, rfl, Or.inl ⟨_, rfl⟩⟩ ?_
  exact ⟨rfl, pk, pS, pF⟩
theorem j_initASB {h : AH} {d bc bs n : Nat} {n0 b : Nat} (hb : h b = .inr (1, dfs 1)) (hb0 : n0 ≤ b) (hbn : b < n) (h0 : 100 ≤ n0) (h1 : 1 ≤ bc) (h2 : 16 ≤ bs) : SM SR0 MJ5_init_d00df d bc bs [.ref b, .int 16] h n (SBo h n n n0 b 0 16 [] none) := by
  refine sm_of pn_java_lang_AbstractStringBuilder rfl (Nat.le_of_ble_eq_true rfl) ?_
  refine sw_aload_n (pc' := 1) rfl dJ5_init_d00df_0 rfl ?_
  refine sw_objInit (pc' := 4) rfl dJ5_init_d00df_1 w_689 w_69 w_70 (Nat.le_of_ble_eq_true rfl) ?_
  refine sw_gets (pc' := 7) rfl dJ5_init_d00df_4 (v := .int 1) (by decide +kernel) w_690 ?_
  refine sw_if_eq (pc' := 10) (tgt := 25) rfl dJ5_init_d00df_7 (by decide +kernel) (fun c7 => ?_) (fun c7 => ?_)
  · exact absurd c7 (by decide +kernel)
  · refine sw_aload_n (pc' := 11) rfl dJ5_init_d00df_10 rfl ?_
    refine sw_iload_n (pc' := 12) rfl dJ5_init_d00df_11 rfl ?_
    refine sw_newa (t := 2) (len := 16) (pc' := 14) rfl dJ5_init_d00df_12 (by decide +kernel) w_352 rfl (by omega) (by omega) (by omega) ?_
    refine sw_nm (fun g1 eg1 => ?_)
    have zg1 := (congrFun eg1 n).trans (up_s (h := h) (i := n))
    refine sw_putf (ci := 1) (k := 0) (pc' := 17) rfl dJ5_init_d00df_14 (by decide +kernel) (by decide +kernel) w_699 rfl (((congrFun eg1 b).trans (up_n (by omega))).trans hb) (by show 100 ≤ _; omega) (Nat.le_of_ble_eq_true rfl) rfl rfl ?_
    refine sw_nm (fun g2 eg2 => ?_)
    have zg2 := (congrFun eg2 b).trans (up_s (h := g1) (i := b))
    refine sw_aload_n (pc' := 18) rfl dJ5_init_d00df_17 rfl ?_
    refine sw_iconst (pc' := 19) (v := 0) rfl dJ5_init_d00df_18 (by decide +kernel) ?_
    refine sw_putf (ci := 1) (k := 1) (pc' := 22) rfl dJ5_init_d00df_19 (by decide +kernel) (by decide +kernel) w_700 rfl zg2 (by show 100 ≤ _; omega) (Nat.le_of_ble_eq_true rfl) rfl rfl ?_
    refine sw_nm (fun g3 eg3 => ?_)
    have zg3 := (congrFun eg3 b).trans (up_s (h := g2) (i := b))
    refine sw_goto (tgt := 38) dJ5_init_d00df_22 (by decide +kernel) ?_
    refine sw_ret (v := none) ⟨dJ5_init_d00df_38, rfl⟩ ?_
    exact ⟨rfl, Nat.le_succ _, ⟨n, _, 0, zg3, (((congrFun eg3 n).trans (up_n (by omega))).trans (((congrFun eg2 n).trans (up_n (by omega))).trans zg1)), bfit0, by omega, by omega, Nat.lt_succ_self _, hb0, by omega, by omega, rfl⟩, fun i hi => (congrFun eg3 i).trans ((up_n (by omega)).trans ((congrFun eg2 i).trans ((up_n (by omega)).trans ((congrFun eg1 i).trans ((up_n (by omega)).trans (rfl))))))⟩
theorem j_initSB {h : AH} {d bc bs n : Nat} {n0 b : Nat} (hb : h b = .inr (1, dfs 1)) (hb0 : n0 ≤ b) (hbn : b < n) (h0 : 100 ≤ n0) (h1 : 1 ≤ bc) (h2 : 16 ≤ bs) (hd : 1 ≤ d) : SM SR0 MJ4_init_da8c8 d bc bs [.ref b] h n (SBo h n n n0 b 0 16 [] none) := by
  refine sm_of pn_java_lang_StringBuilder rfl (Nat.le_of_ble_eq_true rfl) ?_
  refine sw_aload_n (pc' := 1) rfl dJ4_init_da8c8_0 rfl ?_
  refine sw_bipush (pc' := 3) (v := 16) rfl dJ4_init_da8c8_1 (by decide +kernel) ?_
  refine sw_I (M' := MJ5_init_d00df) (d' := d - 1) (bc' := 1) (bs' := 16) (as := [_]) dJ4_init_da8c8_3 w_686 ok_J5_init_d00df (j_initASB hb hb0 hbn h0 (by omega) (by omega)) (by omega) (Nat.le_of_ble_eq_true rfl) (by omega) (by omega) (fun E h' n' _ z => sbo_x z) (sbo_k (fun p pn pk pS pF => ?_))
  refine sw_ret (v := none) ⟨dJ4_init_da8c8_6, rfl⟩ ?_
  exact ⟨rfl, pk, pS, pF⟩
theorem j_checkLength {h : AH} {d bc bs n : Nat} {k : Nat} (hk : k < 2 ^ 31) : SM SR0 MJ7_checkLength_df160 d bc bs [.int 0, .int (nI k)] h n (Det ivN h n) := by
  refine sm_of pn_java_util_Arrays rfl (Nat.le_of_ble_eq_true rfl) ?_
  refine sw_iload_n (pc' := 1) rfl dJ7_checkLength_df160_0 rfl ?_
  refine sw_iload_n (pc' := 2) rfl dJ7_checkLength_df160_1 rfl ?_
  refine sw_icmp_ge (pc' := 5) (tgt := 37) rfl dJ7_checkLength_df160_2 (by decide +kernel) (fun c2 => ?_) (fun c2 => ?_)
  · refine sw_ret (v := none) ⟨dJ7_checkLength_df160_37, rfl⟩ ?_
    exact ⟨rfl, rfl, rfl⟩
  · exact absurd (nI_pos' hk) c2
theorem j_copyOfRangeByte {h : AH} {d bc bs n : Nat} {a m k : Nat} {f : Nat → Int32} (ha : h a = .inl (2, m, .inl f)) (hf : bfit f) (ha0 : 100 ≤ a) (han : a < n) (hkm : k ≤ m) (hm : m ≤ 2000) (hd : 1 ≤ d) (h1 : 1 ≤ bc) (h2 : k ≤ bs) : SM SR0 MJ7_copyOfRangeByte_39247 d bc bs [.ref a, .int 0, .int (nI k)] h n (NBo h n k f k) := by
  refine sm_of pn_java_util_Arrays rfl (Nat.le_of_ble_eq_true rfl) ?_
  refine sw_iload_n (pc' := 1) rfl dJ7_copyOfRangeByte_39247_0 rfl ?_
  refine sw_iload_n (pc' := 2) rfl dJ7_copyOfRangeByte_39247_1 rfl ?_
  refine sw_S (M' := MJ7_checkLength_df160) (d' := d - 1) (bc' := 0) (bs' := 0) (as := [_, _]) dJ7_copyOfRangeByte_39247_2 w_880 ok_J7_checkLength_df160 (j_checkLength (by omega)) (by omega) (Nat.le_of_ble_eq_true rfl) (Nat.zero_le _) (Nat.zero_le _) (fun E h' n' _ z => det_x z) (det_k ?_)
  refine sw_iload_n (pc' := 6) rfl dJ7_copyOfRangeByte_39247_5 rfl ?_
  refine sw_iload_n (pc' := 7) rfl dJ7_copyOfRangeByte_39247_6 rfl ?_
  refine sw_isub (pc' := 8) rfl dJ7_copyOfRangeByte_39247_7 ?_
  rw [show nI k - 0 = nI k from Int32.sub_zero _]
  refine sw_istore_n (pc' := 9) (lv' := [(3, _), (0, _), (1, _), (2, _)]) rfl dJ7_copyOfRangeByte_39247_8 (by decide +kernel) rfl ?_
  refine sw_iload_n (pc' := 10) rfl dJ7_copyOfRangeByte_39247_9 rfl ?_
  refine sw_newa (t := 2) (len := k) (pc' := 12) rfl dJ7_copyOfRangeByte_39247_10 (by decide +kernel) w_352 rfl (by omega) (by omega) (by omega) ?_
  refine sw_nm (fun g1 eg1 => ?_)
  have zg1 := (congrFun eg1 n).trans (up_s (h := h) (i := n))
  refine sw_astore (pc' := 14) (lv' := [(4, _), (3, _), (0, _), (1, _), (2, _)]) rfl dJ7_copyOfRangeByte_39247_12 (by decide +kernel) rfl ?_
  refine sw_aload_n (pc' := 15) rfl dJ7_copyOfRangeByte_39247_14 rfl ?_
  refine sw_iload_n (pc' := 16) rfl dJ7_copyOfRangeByte_39247_15 rfl ?_
  refine sw_aload (pc' := 18) rfl dJ7_copyOfRangeByte_39247_16 rfl ?_
  refine sw_iconst (pc' := 19) (v := 0) rfl dJ7_copyOfRangeByte_39247_18 (by decide +kernel) ?_
  refine sw_aload_n (pc' := 20) rfl dJ7_copyOfRangeByte_39247_19 rfl ?_
  refine sw_alen (pc' := 21) rfl dJ7_copyOfRangeByte_39247_20 (((congrFun eg1 a).trans (up_n (by omega))).trans ha) (by decide +kernel) (Or.inl (by show 100 ≤ _; omega)) ?_
  refine sw_iload_n (pc' := 22) rfl dJ7_copyOfRangeByte_39247_21 rfl ?_
  refine sw_isub (pc' := 23) rfl dJ7_copyOfRangeByte_39247_22 ?_
  rw [show nI m - 0 = nI m from Int32.sub_zero _]
  refine sw_iload_n (pc' := 24) rfl dJ7_copyOfRangeByte_39247_23 rfl ?_
  refine sw_S (M' := MJ9_min_7cf53) (d' := d - 1) (bc' := 0) (bs' := 0) (as := [_, _]) dJ7_copyOfRangeByte_39247_24 w_751 ok_J9_min_7cf53 (m_min) (by omega) (Nat.le_of_ble_eq_true rfl) (Nat.zero_le _) (Nat.zero_le _) (fun E h' n' _ z => det_x z) (det_k ?_)
  rw [minN2 (by omega) (by omega)]
  refine sw_copyB (pc' := 30) (sp := 0) (dp := 0) (k := k) rfl dJ7_copyOfRangeByte_39247_27 w_754 w_756 w_755 w_59 (((congrFun eg1 a).trans (up_n (by omega))).trans ha) zg1 (by show 100 ≤ _; omega) hf (by omega) (by omega) rfl rfl rfl (by omega) (by omega) (Nat.le_of_ble_eq_true rfl) ?_
  refine sw_nm (fun g2 eg2 => ?_)
  have zg2 := (congrFun eg2 n).trans (up_s (h := g1) (i := n))
  refine sw_aload (pc' := 32) rfl dJ7_copyOfRangeByte_39247_30 rfl ?_
  refine sw_ret (v := some _) ⟨dJ7_copyOfRangeByte_39247_32, _, rfl, Or.inr ⟨_, rfl⟩⟩ ?_
  exact ⟨rfl, rfl, ⟨_, zg2, bfit_cpy hf bfit0, fun i hi => cpy0 hi⟩, fun i h1 => (congrFun eg2 i).trans ((up_n h1).trans ((congrFun eg1 i).trans ((up_n h1).trans (rfl))))⟩
theorem j_copyOfRange {h : AH} {d bc bs n : Nat} {a m k : Nat} {f : Nat → Int32} (ha : h a = .inl (2, m, .inl f)) (hf : bfit f) (ha0 : 100 ≤ a) (han : a < n) (hkm : k ≤ m) (hm : m ≤ 2000) (hd : 2 ≤ d) (h1 : 1 ≤ bc) (h2 : k ≤ bs) : SM SR0 MJ7_copyOfRange_39247 d bc bs [.ref a, .int 0, .int (nI k)] h n (NBo h n k f k) := by
  refine sm_of pn_java_util_Arrays rfl (Nat.le_of_ble_eq_true rfl) ?_
  refine sw_iload_n (pc' := 1) rfl dJ7_copyOfRange_39247_0 rfl ?_
  refine sw_if_ne (pc' := 4) (tgt := 10) rfl dJ7_copyOfRange_39247_1 (by decide +kernel) (fun c1 => ?_) (fun c1 => ?_)
  · exact absurd c1 (by decide +kernel)
  · refine sw_iload_n (pc' := 5) rfl dJ7_copyOfRange_39247_4 rfl ?_
    refine sw_aload_n (pc' := 6) rfl dJ7_copyOfRange_39247_5 rfl ?_
    refine sw_alen (pc' := 7) rfl dJ7_copyOfRange_39247_6 ha (by decide +kernel) (Or.inl (by show 100 ≤ _; omega)) ?_
    refine sw_icmp_eq (pc' := 10) (tgt := 17) rfl dJ7_copyOfRange_39247_7 (by decide +kernel) (fun c7 => ?_) (fun c7 => ?_)
    · refine sw_aload_n (pc' := 18) rfl dJ7_copyOfRange_39247_17 rfl ?_
      have ekm : k = m := (nI_eq (by omega) (by omega)).mp c7
      refine sw_cloneB (pc' := 21) rfl dJ7_copyOfRange_39247_18 w_744 w_745 w_746 w_747 w_748 v_711 ha ha0 hf (Nat.le_of_ble_eq_true rfl) (by omega) (by omega) ?_
      refine sw_nm (fun g1 eg1 => ?_)
      have zg1 := (congrFun eg1 n).trans (up_s (h := h) (i := n))
      refine sw_castB (pc' := 24) rfl dJ7_copyOfRange_39247_21 w_750 zg1 (by show 100 ≤ _; omega) ?_
      refine sw_ret (v := some _) ⟨dJ7_copyOfRange_39247_24, _, rfl, Or.inr ⟨_, rfl⟩⟩ ?_
      exact ⟨rfl, rfl, ⟨f, by rw [ekm]; exact zg1, hf, fun _ _ => rfl⟩, fun i h1 => (congrFun eg1 i).trans ((up_n h1).trans (rfl))⟩
    · refine sw_aload_n (pc' := 11) rfl dJ7_copyOfRange_39247_10 rfl ?_
      refine sw_iload_n (pc' := 12) rfl dJ7_copyOfRange_39247_11 rfl ?_
      refine sw_iload_n (pc' := 13) rfl dJ7_copyOfRange_39247_12 rfl ?_
      refine sw_S (M' := MJ7_copyOfRangeByte_39247) (d' := d - 1) (bc' := 1) (bs' := k) (as := [_, _, _]) dJ7_copyOfRange_39247_13 w_877 ok_J7_copyOfRangeByte_39247 (j_copyOfRangeByte ha hf ha0 han hkm hm (by omega) (by omega) (by omega)) (by omega) (Nat.le_of_ble_eq_true rfl) (by omega) (by omega) (fun E h' n' _ z => nbo_x z) (nbo_k (fun p pf pN pfit pC pF => ?_))
      refine sw_ret (v := some _) ⟨dJ7_copyOfRange_39247_16, _, rfl, Or.inr ⟨_, rfl⟩⟩ ?_
      exact ⟨rfl, rfl, ⟨_, pN, pfit, pC⟩, pF⟩
/-- a String is made at t -/
def StV (h : AH) (n' n t L : Nat) (c : List Int32) : Prop := ∃ (v : Nat) (f : Nat → Int32) (r : List Value), h t = .inr (0, .ref v :: .int 0 :: r) ∧ h v = .inl (2, L, .inl f) ∧ bfit f ∧ t < n' ∧ n ≤ v ∧ v < n' ∧ Ct f L c
def SIo (h : AH) (n t L : Nat) (c : List Int32) : ARes → AH → Nat → Prop := fun r' h' n' => r' = .inl none ∧ n ≤ n' ∧ StV h' n' n t L c ∧ ∀ i, i < n → i ≠ t → h' i = h i
theorem sio_k {A : Nat → AH → Option Value → Prop} {h : AH} {n t L m : Nat} {c : List Int32} (k : ∀ h' n', n ≤ n' → StV h' n' n t L c → (∀ i, i < n → i ≠ t → h' i = h i) → A n' h' none) : ∀ (v : Option Value) (h' : AH) (n' : Nat), m ≤ n' → SIo h n t L c (.inl v) h' n' → A n' h' v := by
  rintro v h' n' - ⟨e, g1, g2, g3⟩
  cases e
  exact k h' n' g1 g2 g3
theorem sio_x {A : Prop} {h : AH} {n t L : Nat} {c : List Int32} {E : String} {h' : AH} {n' : Nat} (z : SIo h n t L c (.inr E) h' n') : A := by cases z.1
theorem j_initS2 {h : AH} {d bc bs n : Nat} {n0 b N m t : Nat} {c : List Int32} (ht : h t = .inr (0, dfs 0)) (hS : SbF h n n0 b N m c) (h0 : 100 ≤ n0) (ht0 : 100 ≤ t) (htn : t < n) (htb : ∀ a f, h t ≠ .inl (2, a, .inl f)) (hm : m ≤ 2000) (h1 : 1 ≤ bc) (h2 : N ≤ bs) (hd : 4 ≤ d) : SM SR0 MJ0_init_db425 d bc bs [.ref t, .ref b, .null] h n (SIo h n t N c) := by
  obtain ⟨a, f, fl, hb, ha, hf, hNC, ha0, han, hb0, hbn, hba, hC⟩ := hS
  have hta : a ≠ t := fun e => htb m f (e ▸ ha)
  have htb2 : b ≠ t := fun e => by rw [e, ht] at hb; cases hb
  refine sm_of pn_java_lang_String rfl (Nat.le_of_ble_eq_true rfl) ?_
  refine sw_aload_n (pc' := 1) rfl dJ0_init_db425_0 rfl ?_
  refine sw_objInit (pc' := 4) rfl dJ0_init_db425_1 w_859 w_69 w_70 (Nat.le_of_ble_eq_true rfl) ?_
  refine sw_aload_n (pc' := 5) rfl dJ0_init_db425_4 rfl ?_
  refine sw_callU (M' := MJ5_getValue_6d5f1) (x := ({ cls := "java/lang/AbstractStringBuilder", name := "getValue", desc := "()[B" } : Jvm.MethodName)) (d' := d - 1) (bc' := 0) (bs' := 0) (ci := 1) (as := []) dJ0_init_db425_5 w_860 w_862 rfl w_861 w_863 w_53 (by unfold cwM; exact w_864) (by decide +kernel) (show _ = some 0 by decide +kernel) rfl (by omega) (by decide +kernel) (j_getValue hb) hb (Nat.le_of_ble_eq_true rfl) (Nat.zero_le _) (Nat.zero_le _) (det_k ?_) (fun E h' n' _ z => det_x z)
  refine sw_astore_n (pc' := 9) (lv' := [(3, _), (0, _), (1, _), (2, _)]) rfl dJ0_init_db425_8 (by decide +kernel) rfl ?_
  refine sw_aload_n (pc' := 10) rfl dJ0_init_db425_9 rfl ?_
  refine sw_callO (M' := MJ4_length_8abf5) (x := ({ cls := "java/lang/AbstractStringBuilder", name := "length", desc := "()I" } : Jvm.MethodName)) (owner := "java/lang/AbstractStringBuilder") (d' := d - 1) (bc' := 0) (bs' := 0) (ci := 1) (as := []) dJ0_init_db425_10 w_865 w_867 w_866 w_872 w_869 w_868 w_54 (by unfold cwM; exact w_870) (by decide +kernel) (show _ = some 0 by decide +kernel) rfl (by omega) (by decide +kernel) (j_length4 hb (by omega)) hb (Nat.le_of_ble_eq_true rfl) (Nat.zero_le _) (Nat.zero_le _) (fun E h' n' _ z => det_x z) (det_k ?_)
  refine sw_istore (pc' := 15) (lv' := [(4, _), (3, _), (0, _), (1, _), (2, _)]) rfl dJ0_init_db425_13 (by decide +kernel) rfl ?_
  refine sw_aload_n (pc' := 16) rfl dJ0_init_db425_15 rfl ?_
  refine sw_callU (M' := MJ5_isLatin1_aae02) (x := ({ cls := "java/lang/AbstractStringBuilder", name := "isLatin1", desc := "()Z" } : Jvm.MethodName)) (d' := d - 1) (bc' := 0) (bs' := 0) (ci := 1) (as := []) dJ0_init_db425_16 w_873 w_759 rfl w_758 w_760 w_53 (by unfold cwM; exact w_761) (by decide +kernel) (show _ = some 0 by decide +kernel) rfl (by omega) (by decide +kernel) (j_isLatin1 hb) hb (Nat.le_of_ble_eq_true rfl) (Nat.zero_le _) (Nat.zero_le _) (det_k ?_) (fun E h' n' _ z => det_x z)
  refine sw_if_eq (pc' := 22) (tgt := 41) rfl dJ0_init_db425_19 (by decide +kernel) (fun c19 => ?_) (fun c19 => ?_)
  · exact absurd c19 (by decide +kernel)
  · refine sw_aload_n (pc' := 23) rfl dJ0_init_db425_22 rfl ?_
    refine sw_iconst (pc' := 24) (v := 0) rfl dJ0_init_db425_23 (by decide +kernel) ?_
    refine sw_putfF (ci := 0) (k := 1) (pc' := 27) rfl dJ0_init_db425_24 (by decide +kernel) (by decide +kernel) w_942 rfl rfl rfl ht (by show 100 ≤ _; omega) (Nat.le_of_ble_eq_true rfl) rfl rfl ?_
    refine sw_nm (fun g1 eg1 => ?_)
    have zg1 := (congrFun eg1 t).trans (up_s (h := h) (i := t))
    refine sw_aload_n (pc' := 28) rfl dJ0_init_db425_27 rfl ?_
    refine sw_aload_n (pc' := 29) rfl dJ0_init_db425_28 rfl ?_
    refine sw_iconst (pc' := 30) (v := 0) rfl dJ0_init_db425_29 (by decide +kernel) ?_
    refine sw_iload (pc' := 32) rfl dJ0_init_db425_30 rfl ?_
    have pre9 : ∀ i, i ≠ t → g1 i = h i := fun i h1 => (congrFun eg1 i).trans ((up_n h1).trans (rfl))
    refine sw_S (M' := MJ7_copyOfRange_39247) (d' := d - 1) (bc' := 1) (bs' := N) (as := [_, _, _]) dJ0_init_db425_32 w_874 ok_J7_copyOfRange_39247 (j_copyOfRange (((congrFun eg1 a).trans (up_n (by omega))).trans ha) hf (by omega) (by omega) (by omega) (by omega) (by omega) (by omega) (by omega)) (by omega) (Nat.le_of_ble_eq_true rfl) (by omega) (by omega) (fun E h' n' _ z => nbo_x z) (nbo_k (fun p pf pN pfit pC pF => ?_))
    refine sw_putfF (ci := 0) (k := 0) (pc' := 38) rfl dJ0_init_db425_35 (by decide +kernel) (by decide +kernel) w_941 rfl rfl rfl ((pF t (by omega)).trans zg1) (by show 100 ≤ _; omega) (Nat.le_of_ble_eq_true rfl) rfl rfl ?_
    refine sw_nm (fun g2 eg2 => ?_)
    have zg2 := (congrFun eg2 t).trans (up_s (h := p) (i := t))
    refine sw_goto (tgt := 97) dJ0_init_db425_38 (by decide +kernel) ?_
    refine sw_ret (v := none) ⟨dJ0_init_db425_97, rfl⟩ ?_
    exact ⟨rfl, Nat.le_succ _, ⟨n, pf, _, zg2, (congrFun eg2 n).trans ((up_n (by omega)).trans (pN)), pfit, by omega, Nat.le_refl _, Nat.lt_succ_self _, hC.ext pC⟩, fun i hi h1 => (congrFun eg2 i).trans ((up_n h1).trans ((pF i (by omega)).trans (pre9 i h1)))⟩
theorem j_initS {h : AH} {d bc bs n : Nat} {n0 b N m t : Nat} {c : List Int32} (ht : h t = .inr (0, dfs 0)) (hS : SbF h n n0 b N m c) (h0 : 100 ≤ n0) (ht0 : 100 ≤ t) (htn : t < n) (htb : ∀ a f, h t ≠ .inl (2, a, .inl f)) (hm : m ≤ 2000) (h1 : 1 ≤ bc) (h2 : N ≤ bs) (hd : 5 ≤ d) : SM SR0 MJ0_init_81219 d bc bs [.ref t, .ref b] h n (SIo h n t N c) := by
  refine sm_of pn_java_lang_String rfl (Nat.le_of_ble_eq_true rfl) ?_
  refine sw_aload_n (pc' := 1) rfl dJ0_init_81219_0 rfl ?_
  refine sw_aload_n (pc' := 2) rfl dJ0_init_81219_1 rfl ?_
  refine sw_null (pc' := 3) rfl dJ0_init_81219_2 ?_
  refine sw_I (M' := MJ0_init_db425) (d' := d - 1) (bc' := 1) (bs' := N) (as := [_, _]) dJ0_init_81219_3 w_856 ok_J0_init_db425 (j_initS2 ht hS h0 ht0 htn htb hm (by omega) (by omega) (by omega)) (by omega) (Nat.le_of_ble_eq_true rfl) (by omega) (by omega) (fun E h' n' _ z => sio_x z) (sio_k (fun p pn pk pS pF => ?_))
  refine sw_ret (v := none) ⟨dJ0_init_81219_6, rfl⟩ ?_
  exact ⟨rfl, pk, pS, pF⟩
theorem j_toString {h : AH} {d bc bs n : Nat} {n0 b N m : Nat} {c : List Int32} (hS : SbF h n n0 b N m c) (h0 : 100 ≤ n0) (hm : m ≤ 2000) (h1 : 2 ≤ bc) (h2 : N + 4 ≤ bs) (hd : 6 ≤ d) : SM SR0 MJ4_toString_0e30d d bc bs [.ref b] h n (SPo h n N c) := by
  refine sm_of pn_java_lang_StringBuilder rfl (Nat.le_of_ble_eq_true rfl) ?_
  refine sw_new (ci := 0) (pc' := 3) rfl dJ4_toString_0e30d_0 (by decide +kernel) w_851 w_852 w_55 (by omega) (Nat.le_trans (Nat.le_of_ble_eq_true rfl) (show 4 ≤ _ by omega)) ?_
  refine sw_nm (fun g1 eg1 => ?_)
  have zg1 := (congrFun eg1 n).trans (up_s (h := h) (i := n))
  refine sw_dup (pc' := 4) rfl dJ4_toString_0e30d_3 rfl ?_
  refine sw_aload_n (pc' := 5) rfl dJ4_toString_0e30d_4 rfl ?_
  have f4 : FN 0 = 4 := rfl
  have sS : SbF g1 (n + 1) n0 b N m c := hS.fr (fun i hi => (congrFun eg1 i).trans ((up_n (by omega)).trans (rfl))) (Nat.le_succ _)
  refine sw_I (M' := MJ0_init_81219) (d' := d - 1) (bc' := 1) (bs' := N) (as := [_]) dJ4_toString_0e30d_5 w_853 ok_J0_init_81219 (j_initS zg1 sS h0 (by have := hS.lt; omega) (Nat.lt_succ_self _) (fun a f e => by rw [zg1] at e; cases e) hm (by omega) (Nat.le_refl _) (by omega)) (by omega) (Nat.le_of_ble_eq_true rfl) (by omega) (by omega) (fun E h' n' _ z => sio_x z) (sio_k (fun p pn pk pS pF => ?_))
  refine sw_ret (v := some _) ⟨dJ4_toString_0e30d_8, _, rfl, Or.inl ⟨_, rfl⟩⟩ ?_
  obtain ⟨v9, f9, r9, g1, g2, g3, g4, g5, g6, g7⟩ := pS
  exact ⟨by omega, n, rfl, ⟨v9, f9, r9, g1, g2, g3, Or.inr (Nat.le_refl _), g4, Or.inr (by omega), g6, g7⟩, fun i hi => (pF i (by omega) (by omega)).trans ((congrFun eg1 i).trans (up_n (by omega)))⟩
theorem l_equalsB {h : AH} {d bc bs n v w L : Nat} {f g : Nat → Int32} (hv : h v = .inl (2, L, .inl f)) (hw : h w = .inl (2, L, .inl g)) (he : ∀ i, i < L → f i = g i) (hL : L ≤ 2000) (m : Nat) : ∀ i : Nat, i + m = L → SW SR0 MJ1_equals_b5fdf d bc bs 9 [(2, .int (nI i)), (0, .ref v), (1, .ref w)] [] h n (Det (rI 1) h n) := by
  induction m with
  | zero =>
    intro i hi
    refine sw_iload_n (pc' := 10) rfl dJ1_equals_b5fdf_9 rfl ?_
    refine sw_aload_n (pc' := 11) rfl dJ1_equals_b5fdf_10 rfl ?_
    refine sw_alen (pc' := 12) rfl dJ1_equals_b5fdf_11 hv (by decide +kernel) (Or.inr ⟨by decide +kernel, _, rfl⟩) ?_
    refine sw_icmp_ge (pc' := 15) (tgt := 32) rfl dJ1_equals_b5fdf_12 (by decide +kernel) (fun c12 => ?_) (fun c12 => ?_)
    · refine sw_iconst (pc' := 33) (v := 1) rfl dJ1_equals_b5fdf_32 (by decide +kernel) ?_
      refine sw_ret (v := some _) ⟨dJ1_equals_b5fdf_33, _, rfl, rfl⟩ ?_
      exact ⟨rfl, rfl, rfl⟩
    · exact absurd ((nI_leI (by omega) (by omega)).mpr (by omega)) c12
  | succ m ih =>
    intro i hi
    refine sw_iload_n (pc' := 10) rfl dJ1_equals_b5fdf_9 rfl ?_
    refine sw_aload_n (pc' := 11) rfl dJ1_equals_b5fdf_10 rfl ?_
    refine sw_alen (pc' := 12) rfl dJ1_equals_b5fdf_11 hv (by decide +kernel) (Or.inr ⟨by decide +kernel, _, rfl⟩) ?_
    refine sw_icmp_ge (pc' := 15) (tgt := 32) rfl dJ1_equals_b5fdf_12 (by decide +kernel) (fun c12 => ?_) (fun c12 => ?_)
    · exact absurd c12 (nI_ge (by omega) (by omega))
    · refine sw_aload_n (pc' := 16) rfl dJ1_equals_b5fdf_15 rfl ?_
      refine sw_iload_n (pc' := 17) rfl dJ1_equals_b5fdf_16 rfl ?_
      refine sw_bald (j := i) (pc' := 18) rfl dJ1_equals_b5fdf_17 hv rfl (by omega) (by omega) ?_
      refine sw_aload_n (pc' := 19) rfl dJ1_equals_b5fdf_18 rfl ?_
      refine sw_iload_n (pc' := 20) rfl dJ1_equals_b5fdf_19 rfl ?_
      refine sw_bald (j := i) (pc' := 21) rfl dJ1_equals_b5fdf_20 hw rfl (by omega) (by omega) ?_
      refine sw_icmp_eq (pc' := 24) (tgt := 26) rfl dJ1_equals_b5fdf_21 (by decide +kernel) (fun c21 => ?_) (fun c21 => ?_)
      · refine sw_iinc (pc' := 29) (lv' := [(2, _), (0, _), (1, _)]) (v := nI (i + 1)) rfl dJ1_equals_b5fdf_26 rfl (nI_1 i) (by decide +kernel) rfl ?_
        refine sw_goto (tgt := 9) dJ1_equals_b5fdf_29 (by decide +kernel) ?_
        exact ih (i + 1) (by omega)
      · exact absurd (he i (by omega)) c21
theorem j_equalsB {h : AH} {d bc bs n v w L : Nat} {f g : Nat → Int32} (hv : h v = .inl (2, L, .inl f)) (hw : h w = .inl (2, L, .inl g)) (he : ∀ i, i < L → f i = g i) (hL : L ≤ 2000) : SM SR0 MJ1_equals_b5fdf d bc bs [.ref v, .ref w] h n (Det (rI 1) h n) := by
  refine sm_of pn_java_lang_StringLatin1 rfl (Nat.le_of_ble_eq_true rfl) ?_
  refine sw_aload_n (pc' := 1) rfl dJ1_equals_b5fdf_0 rfl ?_
  refine sw_alen (pc' := 2) rfl dJ1_equals_b5fdf_1 hv (by decide +kernel) (Or.inr ⟨by decide +kernel, _, rfl⟩) ?_
  refine sw_aload_n (pc' := 3) rfl dJ1_equals_b5fdf_2 rfl ?_
  refine sw_alen (pc' := 4) rfl dJ1_equals_b5fdf_3 hw (by decide +kernel) (Or.inr ⟨by decide +kernel, _, rfl⟩) ?_
  refine sw_icmp_ne (pc' := 7) (tgt := 34) rfl dJ1_equals_b5fdf_4 (by decide +kernel) (fun c4 => ?_) (fun c4 => ?_)
  · exact absurd rfl c4
  · refine sw_iconst (pc' := 8) (v := 0) rfl dJ1_equals_b5fdf_7 (by decide +kernel) ?_
    refine sw_istore_n (pc' := 9) (lv' := [(2, _), (0, _), (1, _)]) rfl dJ1_equals_b5fdf_8 (by decide +kernel) rfl ?_
    exact l_equalsB hv hw he hL L 0 (by omega)
theorem j_equals {h : AH} {d bc bs n t u L L2 m0 m1 : Nat} {c : List Int32} (hU : StF h m0 t L c) (hU2 : StF h m1 u L2 c) (hL : L ≤ 2000) (hd : 1 ≤ d) : SM SR0 MJ0_equals_9ea2d d bc bs [.ref t, .ref u] h n (Det (rI 1) h n) := by
  obtain ⟨v, fv, rv, ht, hv, -, -, -, hCv⟩ := hU
  obtain ⟨w, fw, r2, hu, hw, -, -, -, hCw⟩ := hU2
  obtain rfl : L = L2 := hCv.len.symm.trans hCw.len
  refine sm_of pn_java_lang_String rfl (Nat.le_of_ble_eq_true rfl) ?_
  refine sw_aload_n (pc' := 1) rfl dJ0_equals_9ea2d_0 rfl ?_
  refine sw_aload_n (pc' := 2) rfl dJ0_equals_9ea2d_1 rfl ?_
  refine sw_acmpA (pc' := 5) (tgt := 7) rfl dJ0_equals_9ea2d_2 (by decide +kernel) ?_ ?_
  · refine sw_aload_n (pc' := 8) rfl dJ0_equals_9ea2d_7 rfl ?_
    refine sw_instS (pc' := 11) rfl dJ0_equals_9ea2d_8 w_1489 hu ?_
    refine sw_if_eq (pc' := 14) (tgt := 54) rfl dJ0_equals_9ea2d_11 (by decide +kernel) (fun c11 => ?_) (fun c11 => ?_)
    · exact absurd c11 (by decide +kernel)
    · refine sw_aload_n (pc' := 15) rfl dJ0_equals_9ea2d_14 rfl ?_
      refine sw_castS (pc' := 18) rfl dJ0_equals_9ea2d_15 w_1489 hu ?_
      refine sw_astore_n (pc' := 19) (lv' := [(2, _), (0, _), (1, _)]) rfl dJ0_equals_9ea2d_18 (by decide +kernel) rfl ?_
      refine sw_gets (pc' := 22) rfl dJ0_equals_9ea2d_19 (v := .int 1) (by decide +kernel) w_910 ?_
      refine sw_if_eq (pc' := 25) (tgt := 36) rfl dJ0_equals_9ea2d_22 (by decide +kernel) (fun c22 => ?_) (fun c22 => ?_)
      · exact absurd c22 (by decide +kernel)
      · refine sw_aload_n (pc' := 26) rfl dJ0_equals_9ea2d_25 rfl ?_
        refine sw_getf (ci := 0) (k := 1) (pc' := 29) rfl dJ0_equals_9ea2d_26 (by decide +kernel) w_942 ht rfl ?_
        refine sw_aload_n (pc' := 30) rfl dJ0_equals_9ea2d_29 rfl ?_
        refine sw_getf (ci := 0) (k := 1) (pc' := 33) rfl dJ0_equals_9ea2d_30 (by decide +kernel) w_942 hu rfl ?_
        refine sw_icmp_ne (pc' := 36) (tgt := 54) rfl dJ0_equals_9ea2d_33 (by decide +kernel) (fun c33 => ?_) (fun c33 => ?_)
        · exact absurd c33 (by decide +kernel)
        · refine sw_aload_n (pc' := 37) rfl dJ0_equals_9ea2d_36 rfl ?_
          refine sw_getf (ci := 0) (k := 0) (pc' := 40) rfl dJ0_equals_9ea2d_37 (by decide +kernel) w_941 ht rfl ?_
          refine sw_aload_n (pc' := 41) rfl dJ0_equals_9ea2d_40 rfl ?_
          refine sw_getf (ci := 0) (k := 0) (pc' := 44) rfl dJ0_equals_9ea2d_41 (by decide +kernel) w_941 hu rfl ?_
          refine sw_S (M' := MJ1_equals_b5fdf) (d' := d - 1) (bc' := 0) (bs' := 0) (as := [_, _]) dJ0_equals_9ea2d_44 w_1490 ok_J1_equals_b5fdf (j_equalsB hv hw (hCv.eqs hCw) hL) (by omega) (Nat.le_of_ble_eq_true rfl) (Nat.zero_le _) (Nat.zero_le _) (fun E h' n' _ z => det_x z) (det_k ?_)
          refine sw_if_eq (pc' := 50) (tgt := 54) rfl dJ0_equals_9ea2d_47 (by decide +kernel) (fun c47 => ?_) (fun c47 => ?_)
          · exact absurd c47 (by decide +kernel)
          · refine sw_iconst (pc' := 51) (v := 1) rfl dJ0_equals_9ea2d_50 (by decide +kernel) ?_
            refine sw_goto (tgt := 55) dJ0_equals_9ea2d_51 (by decide +kernel) ?_
            refine sw_ret (v := some _) ⟨dJ0_equals_9ea2d_55, _, rfl, rfl⟩ ?_
            exact ⟨rfl, rfl, rfl⟩
  refine sw_iconst (pc' := 6) (v := 1) rfl dJ0_equals_9ea2d_5 (by decide +kernel) ?_
  refine sw_ret (v := some _) ⟨dJ0_equals_9ea2d_6, _, rfl, rfl⟩ ?_
  exact ⟨rfl, rfl, rfl⟩
