/-! A logic over abstract heaps: SW (a place in a method), SM (a method); addresses are numbers 0, 1, 2 .. of our own, those below nC are constants that nobody writes -/
abbrev MI : Type := MethodName × ByteArray × Nat × Option FieldType × List (Nat × Nat × Nat × Nat)
abbrev AH : Type := Nat → va_E
abbrev ARes : Type := Option Value ⊕ String
/-- D; the classes of arrays by their tag; the constants' addresses; what they are -/
abbrev GD : Type := va_G × (Nat → ClassId) × (Nat → Nat) × (Nat → va_E)
abbrev nC : Nat := 100
def em (ad : Nat → Nat) (v : Value) : Value := match v with
  | .ref i => .ref (ad i)
  | w => w
def emE (cA : Nat → ClassId) (ad : Nat → Nat) (e : va_E) : va_E := match e with
  | .inl (t, n, .inr (.inr (.inr (.inr g)))) => .inl (cA t, n, .inr (.inr (.inr (.inr (fun j => (g j).map ad)))))
  | .inl (t, x) => .inl (cA t, x)
  | .inr (ci, fs) => .inr (ci, fs.map (em ad))
def clV (n : Nat) (v : Value) : Prop := ∀ i, v = .ref i → i < n
def clE (n : Nat) (e : va_E) : Prop := match e with
  | .inl (_, _, .inr (.inr (.inr (.inr g)))) => ∀ j i, g j = some i → i < n
  | .inl _ => True
  | .inr (_, fs) => ∀ v ∈ fs, clV n v
def up {α : Type} (h : Nat → α) (i : Nat) (e : α) : Nat → α := fun j => if j = i then e else h j
theorem up_s {α : Type} {h : Nat → α} {i : Nat} {e : α} : up h i e i = e := if_pos rfl
theorem up_n {α : Type} {h : Nat → α} {i j : Nat} {e : α} (q : j ≠ i) : up h i e j = h j := if_neg q
def wsH (G : GD) (ad : Nat → Nat) (h : AH) (n : Nat) : va_W := (List.range (n - nC)).map (fun j => (ad (nC + j), emE G.2.1 ad (h (nC + j))))
theorem wsH_len {G : GD} {ad : Nat → Nat} {h : AH} {n : Nat} : (wsH G ad h n).length = n - nC := by simp [wsH]
theorem wsH_get {G : GD} {ad : Nat → Nat} {h : AH} {n i : Nat} (h1 : nC ≤ i) (h2 : i < n) : (wsH G ad h n)[i - nC]? = some (ad i, emE G.2.1 ad (h i)) := by
  have h3 : i - nC < n - nC := by omega
  have h4 : nC + (i - nC) = i := by omega
  simp [wsH, h3, h4]
theorem wsH_set {G : GD} {ad : Nat → Nat} {h : AH} {n i : Nat} {e : va_E} (h1 : nC ≤ i) (h2 : i < n) : (wsH G ad h n).set (i - nC) (ad i, emE G.2.1 ad e) = wsH G ad (up h i e) n := by
  apply List.ext_getElem?
  intro j
  by_cases hj : j < n - nC
  · by_cases e1 : i - nC = j
    · have h4 : nC + j = i := by omega
      rw [← e1, List.getElem?_set_self (by rw [wsH_len]; omega), wsH_get h1 h2, up_s]
    · rw [List.getElem?_set_ne e1]
      have h4 : nC + j ≠ i := by omega
      have a := wsH_get (G := G) (ad := ad) (h := h) (n := n) (i := nC + j) (by omega) (by omega)
      have b := wsH_get (G := G) (ad := ad) (h := up h i e) (n := n) (i := nC + j) (by omega) (by omega)
      rw [show nC + j - nC = j by omega] at a b
      rw [a, b, up_n h4]
  · rw [List.getElem?_eq_none (by rw [List.length_set, wsH_len]; omega), List.getElem?_eq_none (by rw [wsH_len]; omega)]
theorem em_eq {ad ad' : Nat → Nat} {n : Nat} {v : Value} (hv : clV n v) (he : ∀ i, i < n → ad' i = ad i) : em ad' v = em ad v := by
  cases v <;> first | rfl | (rename_i i; exact congrArg Value.ref (he i (hv i rfl)))
theorem emE_eq {cA : Nat → ClassId} {ad ad' : Nat → Nat} {n : Nat} {e : va_E} (hv : clE n e) (he : ∀ i, i < n → ad' i = ad i) : emE cA ad' e = emE cA ad e := by
  match e, hv with
  | .inl (t, m, .inl f), _ => rfl
  | .inl (t, m, .inr (.inl f)), _ => rfl
  | .inl (t, m, .inr (.inr (.inl f))), _ => rfl
  | .inl (t, m, .inr (.inr (.inr (.inl f)))), _ => rfl
  | .inl (t, m, .inr (.inr (.inr (.inr g)))), hv =>
    show (Sum.inl _ : va_E) = Sum.inl _
    have : (fun j => (g j).map ad') = (fun j => (g j).map ad) := by
      funext j
      cases hg : g j with
      | none => rfl
      | some i => exact congrArg some (he i (hv j i hg))
    rw [this]
  | .inr (ci, fs), hv =>
    show (Sum.inr (ci, fs.map (em ad')) : va_E) = Sum.inr (ci, fs.map (em ad))
    have : fs.map (em ad') = fs.map (em ad) := List.map_congr_left (fun v hvm => em_eq (hv v hvm) he)
    rw [this]
theorem clV_mono {n n' : Nat} {v : Value} (h : clV n v) (hn : n ≤ n') : clV n' v := fun i e => Nat.lt_of_lt_of_le (h i e) hn
theorem clE_mono {n n' : Nat} {e : va_E} (h : clE n e) (hn : n ≤ n') : clE n' e := by
  match e, h with
  | .inl (t, m, .inl f), _ => trivial
  | .inl (t, m, .inr (.inl f)), _ => trivial
  | .inl (t, m, .inr (.inr (.inl f))), _ => trivial
  | .inl (t, m, .inr (.inr (.inr (.inl f)))), _ => trivial
  | .inl (t, m, .inr (.inr (.inr (.inr g)))), hv => exact fun j i hg => Nat.lt_of_lt_of_le (hv j i hg) hn
  | .inr (ci, fs), hv => exact fun v hvm => clV_mono (hv v hvm) hn
/-- one thing more, at a fresh real address q -/
theorem wsH_push {G : GD} {ad : Nat → Nat} {h : AH} {n q : Nat} {e : va_E} (hn : nC ≤ n) (hcl : ∀ i, nC ≤ i → i < n → clE n (h i)) (he : clE n e) :
    wsH G ad h n ++ [(q, emE G.2.1 ad e)] = wsH G (up ad n q) (up h n e) (n + 1) := by
  have e0 : ∀ i, i < n → up ad n q i = ad i := fun i hi => up_n (by omega)
  apply List.ext_getElem?
  intro j
  by_cases hj : j < n - nC
  · rw [List.getElem?_append_left (by rw [wsH_len]; exact hj)]
    have a := wsH_get (G := G) (ad := ad) (h := h) (n := n) (i := nC + j) (by omega) (by omega)
    have b := wsH_get (G := G) (ad := up ad n q) (h := up h n e) (n := n + 1) (i := nC + j) (by omega) (by omega)
    rw [show nC + j - nC = j by omega] at a b
    rw [a, b, up_n (h := h) (by omega), e0 _ (by omega), emE_eq (hcl _ (by omega) (by omega)) e0]
  · by_cases e1 : j = n - nC
    · subst e1
      rw [List.getElem?_append_right (by rw [wsH_len]; omega), wsH_len, Nat.sub_self]
      have b := wsH_get (G := G) (ad := up ad n q) (h := up h n e) (n := n + 1) (i := n) hn (by omega)
      rw [b, up_s, up_s, emE_eq he e0]
      rfl
    · rw [List.getElem?_eq_none (by rw [List.length_append, wsH_len]; simp; omega), List.getElem?_eq_none (by rw [wsH_len]; omega)]
/-! what is known of the tables -/
def GT : List Cond := lw_tbl.filter goodWord
def tysOf (cA : Nat → ClassId) : List (ClassId × FieldType) := [(cA 0, .int), (cA 1, .boolean), (cA 2, .byte), (cA 3, .object RX1), (cA 4, .object RX2), (cA 5, .array .int)]
/-- fields of the classes: of vwCl by its places; 7: the enum -/
def FT (ci : Nat) : u_T := match ci with
  | 0 => TJ0
  | 1 => TJ4
  | 2 => TX1
  | 3 => TX2
  | 4 => TX3
  | 5 => TX4
  | 6 => TX5
  | _ => fun k => match k with
    | 0 => ("Overwalks$Kind", "hasPlaces", "Z", true)
    | 1 => ("Overwalks$Kind", "takesNothings", "Z", true)
    | _ => ("Overwalks$Kind", "hasEachOnce", "Z", true)
def CN (ci : Nat) : String := match ci with
  | 0 => RJ0
  | 1 => RJ4
  | 2 => RX1
  | 3 => RX2
  | 4 => RX3
  | 5 => RX4
  | 6 => RX5
  | _ => RX0
def FN (ci : Nat) : Nat := match ci with
  | 0 => 4
  | 1 => 4
  | 2 => 5
  | 3 => 9
  | 4 => 7
  | 5 => 2
  | 6 => 14
  | _ => 3
theorem vwCl_at {ci : Nat} (h : ci < 7) : vwCl[ci]? = some (CN ci, FT ci, FN ci) := by
  match ci, h with
  | 0, _ => rfl
  | 1, _ => rfl
  | 2, _ => rfl
  | 3, _ => rfl
  | 4, _ => rfl
  | 5, _ => rfl
  | 6, _ => rfl
theorem vwCl_lt {ci : Nat} {r : vw_C} (h : vwCl[ci]? = some r) : ci < 7 := (List.getElem?_eq_some_iff.mp h).1
def aTy (t : Nat) : FieldType := match t with
  | 0 => .int
  | 1 => .boolean
  | 2 => .byte
  | 3 => .object RX1
  | 4 => .object RX2
  | _ => .array .int
/-- the static fields that are read, and what they hold (constants by their numbers) -/
def ST : List (String × String × String × Value) := [("Overwalks$Kind", "ROW", "LOverwalks$Kind;", .ref 1), ("Overwalks$Kind", "RISING", "LOverwalks$Kind;", .ref 2), ("Overwalks$Kind", "KEPT", "LOverwalks$Kind;", .ref 3), ("Overwalks$Kind", "QUEUE", "LOverwalks$Kind;", .ref 4), ("Overwalks$Kind", "TABLE", "LOverwalks$Kind;", .ref 5),
  ("java/lang/Integer", "DigitTens", "[B", .ref 6), ("java/lang/Integer", "DigitOnes", "[B", .ref 7), ("java/lang/String", "COMPACT_STRINGS", "Z", .int 1)]
/-- the constants and statics in the heap -/
def CFc (G : GD) (A : Nat → Prop) (U : State) (H : Heap) : Prop :=
  (∀ i ci fs, i < nC → G.2.2.2 i = .inr (ci, fs) → va_O (CN ci) (G.2.2.1 i) A U H ∧ ∀ (k : Nat) (v : Value), fs[k]? = some v → va_OF (FT ci k).1 (FT ci k).2.1 (FT ci k).2.2.1 (em G.2.2.1 v) (G.2.2.1 i) A U H) ∧
  (∀ i t n f, i < nC → G.2.2.2 i = .inl (t, n, .inl f) → t < 3 → va_T (aTy t) (G.2.2.1 i) n (fun j => .int (f j)) A U H) ∧
  (∀ q ∈ ST, va_Z q.1 q.2.1 q.2.2.1 (em G.2.2.1 q.2.2.2) A U H) ∧
  vx_Zq Bundle.tN "UNASSIGNED_STACK" Bundle.steD A U H ∧ vx_Zq Bundle.tN "SUPPRESSED_SENTINEL" Bundle.listD A U H ∧
  (∀ i j, 1 ≤ i → i ≤ 5 → 1 ≤ j → j ≤ 5 → G.2.2.1 i = G.2.2.1 j → i = j)
theorem CFc.moved {G : GD} {A : Nat → Prop} {u U : State} {H : Heap} (hvm : u.vm.Alike U.vm) (h : CFc G A u H) : CFc G A U H :=
  ⟨fun i ci fs hi hf => ⟨va_O.moved hvm (h.1 i ci fs hi hf).1, fun k v hk => va_OF.moved hvm ((h.1 i ci fs hi hf).2 k v hk)⟩, fun i t n f hi hf ht => va_T.moved hvm (h.2.1 i t n f hi hf ht), fun q hq => va_Z.moved hvm (h.2.2.1 q hq), vx_Zq.moved hvm h.2.2.2.1, vx_Zq.moved hvm h.2.2.2.2.1, h.2.2.2.2.2⟩
theorem CFc.kept {G : GD} {A : Nat → Prop} {U : State} {H H1 : Heap} (h : CFc G A U H) (hq : ∀ a : Nat, a < H.size → ¬ A a → H1[a]? = H[a]?) : CFc G A U H1 :=
  ⟨fun i ci fs hi hf => ⟨(h.1 i ci fs hi hf).1.kept hq, fun k v hk => ((h.1 i ci fs hi hf).2 k v hk).kept hq⟩, fun i t n f hi hf ht => (h.2.1 i t n f hi hf ht).kept hq, fun q hq1 => (h.2.2.1 q hq1).kept hq, h.2.2.2.1.kept hq, h.2.2.2.2.1.kept hq, h.2.2.2.2.2⟩
theorem CFc.narrow {G : GD} {A B : Nat → Prop} {U : State} {H : Heap} (h : CFc G A U H) (hAB : ∀ q, B q → A q) : CFc G B U H :=
  ⟨fun i ci fs hi hf => ⟨(h.1 i ci fs hi hf).1.narrow hAB, fun k v hk => ((h.1 i ci fs hi hf).2 k v hk).narrow hAB⟩, fun i t n f hi hf ht => (h.2.1 i t n f hi hf ht).narrow hAB, fun q hq1 => (h.2.2.1 q hq1).narrow hAB, h.2.2.2.1.narrow hAB, h.2.2.2.2.1.narrow hAB, h.2.2.2.2.2⟩
