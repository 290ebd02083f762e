section
/-! 03.logic -/
/-! A logic over abstract heaps: SW (a place in a method), SM (a method); addresses are numbers 0, 1, 2 .. of our own, those below nC are constants that nobody writes -/
abbrev MI : Type := MethodName × ByteArray × Nat × Option FieldType × List (Nat × Nat × Nat × Nat)
abbrev AH : Type := Nat → va_E
abbrev ARes : Type := Option Value ⊕ String
/-- D; the classes of arrays by their tag; the constants' addresses; what they are -/
abbrev GD : Type := va_G × (Nat → ClassId) × (Nat → Nat) × (Nat → va_E)
abbrev nC : Nat := 100
def em (ad : Nat → Nat) (v : Value) : Value := match v with
  | .ref i => .ref (ad i)
  | w => w
def emE (cA : Nat → ClassId) (ad : Nat → Nat) (e : va_E) : va_E := match e with
  | .inl (t, n, .inr (.inr (.inr (.inr g)))) => .inl (cA t, n, .inr (.inr (.inr (.inr (fun j => (g j).map ad)))))
  | .inl (t, x) => .inl (cA t, x)
  | .inr (ci, fs) => .inr (ci, fs.map (em ad))
def clV (n : Nat) (v : Value) : Prop := ∀ i, v = .ref i → i < n
def clE (n : Nat) (e : va_E) : Prop := match e with
  | .inl (_, _, .inr (.inr (.inr (.inr g)))) => ∀ j i, g j = some i → i < n
  | .inl _ => True
  | .inr (_, fs) => ∀ v ∈ fs, clV n v
def up {α : Type} (h : Nat → α) (i : Nat) (e : α) : Nat → α := fun j => if j = i then e else h j
theorem up_s {α : Type} {h : Nat → α} {i : Nat} {e : α} : up h i e i = e := if_pos rfl
theorem up_n {α : Type} {h : Nat → α} {i j : Nat} {e : α} (q : j ≠ i) : up h i e j = h j := if_neg q
def wsH (G : GD) (ad : Nat → Nat) (h : AH) (n : Nat) : va_W := (List.range (n - nC)).map (fun j => (ad (nC + j), emE G.2.1 ad (h (nC + j))))
theorem wsH_len {G : GD} {ad : Nat → Nat} {h : AH} {n : Nat} : (wsH G ad h n).length = n - nC := by simp [wsH]
theorem wsH_get {G : GD} {ad : Nat → Nat} {h : AH} {n i : Nat} (h1 : nC ≤ i) (h2 : i < n) : (wsH G ad h n)[i - nC]? = some (ad i, emE G.2.1 ad (h i)) := by
  have h3 : i - nC < n - nC := by omega
  have h4 : nC + (i - nC) = i := by omega
  simp [wsH, h3, h4]
theorem wsH_set {G : GD} {ad : Nat → Nat} {h : AH} {n i : Nat} {e : va_E} (h1 : nC ≤ i) (h2 : i < n) : (wsH G ad h n).set (i - nC) (ad i, emE G.2.1 ad e) = wsH G ad (up h i e) n := by
  apply List.ext_getElem?
  intro j
  by_cases hj : j < n - nC
  · by_cases e1 : i - nC = j
    · have h4 : nC + j = i := by omega
      rw [← e1, List.getElem?_set_self (by rw [wsH_len]; omega), wsH_get h1 h2, up_s]
    · rw [List.getElem?_set_ne e1]
      have h4 : nC + j ≠ i := by omega
      have a := wsH_get (G := G) (ad := ad) (h := h) (n := n) (i := nC + j) (by omega) (by omega)
      have b := wsH_get (G := G) (ad := ad) (h := up h i e) (n := n) (i := nC + j) (by omega) (by omega)
      rw [show nC + j - nC = j by omega] at a b
      rw [a, b, up_n h4]
  · rw [List.getElem?_eq_none (by rw [List.length_set, wsH_len]; omega), List.getElem?_eq_none (by rw [wsH_len]; omega)]
theorem em_eq {ad ad' : Nat → Nat} {n : Nat} {v : Value} (hv : clV n v) (he : ∀ i, i < n → ad' i = ad i) : em ad' v = em ad v := by
  cases v <;> first | rfl | (rename_i i; exact congrArg Value.ref (he i (hv i rfl)))
theorem emE_eq {cA : Nat → ClassId} {ad ad' : Nat → Nat} {n : Nat} {e : va_E} (hv : clE n e) (he : ∀ i, i < n → ad' i = ad i) : emE cA ad' e = emE cA ad e := by
  match e, hv with
  | .inl (t, m, .inl f), _ => rfl
  | .inl (t, m, .inr (.inl f)), _ => rfl
  | .inl (t, m, .inr (.inr (.inl f))), _ => rfl
  | .inl (t, m, .inr (.inr (.inr (.inl f)))), _ => rfl
  | .inl (t, m, .inr (.inr (.inr (.inr g)))), hv =>
    show (Sum.inl _ : va_E) = Sum.inl _
    have : (fun j => (g j).map ad') = (fun j => (g j).map ad) := by
      funext j
      cases hg : g j with
      | none => rfl
      | some i => exact congrArg some (he i (hv j i hg))
    rw [this]
  | .inr (ci, fs), hv =>
    show (Sum.inr (ci, fs.map (em ad')) : va_E) = Sum.inr (ci, fs.map (em ad))
    have : fs.map (em ad') = fs.map (em ad) := List.map_congr_left (fun v hvm => em_eq (hv v hvm) he)
    rw [this]
theorem clV_mono {n n' : Nat} {v : Value} (h : clV n v) (hn : n ≤ n') : clV n' v := fun i e => Nat.lt_of_lt_of_le (h i e) hn
theorem clE_mono {n n' : Nat} {e : va_E} (h : clE n e) (hn : n ≤ n') : clE n' e := by
  match e, h with
  | .inl (t, m, .inl f), _ => trivial
  | .inl (t, m, .inr (.inl f)), _ => trivial
  | .inl (t, m, .inr (.inr (.inl f))), _ => trivial
  | .inl (t, m, .inr (.inr (.inr (.inl f)))), _ => trivial
  | .inl (t, m, .inr (.inr (.inr (.inr g)))), hv => exact fun j i hg => Nat.lt_of_lt_of_le (hv j i hg) hn
  | .inr (ci, fs), hv => exact fun v hvm => clV_mono (hv v hvm) hn
/-- one thing more, at a fresh real address q -/
theorem wsH_push {G : GD} {ad : Nat → Nat} {h : AH} {n q : Nat} {e : va_E} (hn : nC ≤ n) (hcl : ∀ i, nC ≤ i → i < n → clE n (h i)) (he : clE n e) :
    wsH G ad h n ++ [(q, emE G.2.1 ad e)] = wsH G (up ad n q) (up h n e) (n + 1) := by
  have e0 : ∀ i, i < n → up ad n q i = ad i := fun i hi => up_n (by omega)
  apply List.ext_getElem?
  intro j
  by_cases hj : j < n - nC
  · rw [List.getElem?_append_left (by rw [wsH_len]; exact hj)]
    have a := wsH_get (G := G) (ad := ad) (h := h) (n := n) (i := nC + j) (by omega) (by omega)
    have b := wsH_get (G := G) (ad := up ad n q) (h := up h n e) (n := n + 1) (i := nC + j) (by omega) (by omega)
    rw [show nC + j - nC = j by omega] at a b
    rw [a, b, up_n (h := h) (by omega), e0 _ (by omega), emE_eq (hcl _ (by omega) (by omega)) e0]
  · by_cases e1 : j = n - nC
    · subst e1
      rw [List.getElem?_append_right (by rw [wsH_len]; omega), wsH_len, Nat.sub_self]
      have b := wsH_get (G := G) (ad := up ad n q) (h := up h n e) (n := n + 1) (i := n) hn (by omega)
      rw [b, up_s, up_s, emE_eq he e0]
      rfl
    · rw [List.getElem?_eq_none (by rw [List.length_append, wsH_len]; simp; omega), List.getElem?_eq_none (by rw [wsH_len]; omega)]
/-! what is known of the tables -/
def GT : List Cond := lw_tbl.filter goodWord
def tysOf (cA : Nat → ClassId) : List (ClassId × FieldType) := [(cA 0, .int), (cA 1, .boolean), (cA 2, .byte), (cA 3, .object RX1), (cA 4, .object RX2), (cA 5, .array .int)]
/-- fields of the classes: of vwCl by its places; 7: the enum -/
def FT (ci : Nat) : u_T := match ci with
  | 0 => TJ0
  | 1 => TJ4
  | 2 => TX1
  | 3 => TX2
  | 4 => TX3
  | 5 => TX4
  | 6 => TX5
  | _ => fun k => match k with
    | 0 => ("Overwalks$Kind", "hasPlaces", "Z", true)
    | 1 => ("Overwalks$Kind", "takesNothings", "Z", true)
    | _ => ("Overwalks$Kind", "hasEachOnce", "Z", true)
def CN (ci : Nat) : String := match ci with
  | 0 => RJ0
  | 1 => RJ4
  | 2 => RX1
  | 3 => RX2
  | 4 => RX3
  | 5 => RX4
  | 6 => RX5
  | _ => RX0
def FN (ci : Nat) : Nat := match ci with
  | 0 => 4
  | 1 => 4
  | 2 => 5
  | 3 => 9
  | 4 => 7
  | 5 => 2
  | 6 => 14
  | _ => 3
theorem vwCl_at {ci : Nat} (h : ci < 7) : vwCl[ci]? = some (CN ci, FT ci, FN ci) := by
  match ci, h with
  | 0, _ => rfl
  | 1, _ => rfl
  | 2, _ => rfl
  | 3, _ => rfl
  | 4, _ => rfl
  | 5, _ => rfl
  | 6, _ => rfl
theorem vwCl_lt {ci : Nat} {r : vw_C} (h : vwCl[ci]? = some r) : ci < 7 := (List.getElem?_eq_some_iff.mp h).1
def aTy (t : Nat) : FieldType := match t with
  | 0 => .int
  | 1 => .boolean
  | 2 => .byte
  | 3 => .object RX1
  | 4 => .object RX2
  | _ => .array .int
/-- the static fields that are read, and what they hold (constants by their numbers) -/
def ST : List (String × String × String × Value) := [("Overwalks$Kind", "ROW", "LOverwalks$Kind;", .ref 1), ("Overwalks$Kind", "RISING", "LOverwalks$Kind;", .ref 2), ("Overwalks$Kind", "KEPT", "LOverwalks$Kind;", .ref 3), ("Overwalks$Kind", "QUEUE", "LOverwalks$Kind;", .ref 4), ("Overwalks$Kind", "TABLE", "LOverwalks$Kind;", .ref 5),
  ("java/lang/Integer", "DigitTens", "[B", .ref 6), ("java/lang/Integer", "DigitOnes", "[B", .ref 7), ("java/lang/String", "COMPACT_STRINGS", "Z", .int 1)]
/-- the constants and statics in the heap -/
def CFc (G : GD) (A : Nat → Prop) (U : State) (H : Heap) : Prop :=
  (∀ i ci fs, i < nC → G.2.2.2 i = .inr (ci, fs) → va_O (CN ci) (G.2.2.1 i) A U H ∧ ∀ (k : Nat) (v : Value), fs[k]? = some v → va_OF (FT ci k).1 (FT ci k).2.1 (FT ci k).2.2.1 (em G.2.2.1 v) (G.2.2.1 i) A U H) ∧
  (∀ i t n f, i < nC → G.2.2.2 i = .inl (t, n, .inl f) → t < 3 → va_T (aTy t) (G.2.2.1 i) n (fun j => .int (f j)) A U H) ∧
  (∀ q ∈ ST, va_Z q.1 q.2.1 q.2.2.1 (em G.2.2.1 q.2.2.2) A U H) ∧
  vx_Zq Bundle.tN "UNASSIGNED_STACK" Bundle.steD A U H ∧ vx_Zq Bundle.tN "SUPPRESSED_SENTINEL" Bundle.listD A U H ∧
  (∀ i j, 1 ≤ i → i ≤ 5 → 1 ≤ j → j ≤ 5 → G.2.2.1 i = G.2.2.1 j → i = j)
theorem CFc.moved {G : GD} {A : Nat → Prop} {u U : State} {H : Heap} (hvm : u.vm.Alike U.vm) (h : CFc G A u H) : CFc G A U H :=
  ⟨fun i ci fs hi hf => ⟨va_O.moved hvm (h.1 i ci fs hi hf).1, fun k v hk => va_OF.moved hvm ((h.1 i ci fs hi hf).2 k v hk)⟩, fun i t n f hi hf ht => va_T.moved hvm (h.2.1 i t n f hi hf ht), fun q hq => va_Z.moved hvm (h.2.2.1 q hq), vx_Zq.moved hvm h.2.2.2.1, vx_Zq.moved hvm h.2.2.2.2.1, h.2.2.2.2.2⟩
theorem CFc.kept {G : GD} {A : Nat → Prop} {U : State} {H H1 : Heap} (h : CFc G A U H) (hq : ∀ a : Nat, a < H.size → ¬ A a → H1[a]? = H[a]?) : CFc G A U H1 :=
  ⟨fun i ci fs hi hf => ⟨(h.1 i ci fs hi hf).1.kept hq, fun k v hk => ((h.1 i ci fs hi hf).2 k v hk).kept hq⟩, fun i t n f hi hf ht => (h.2.1 i t n f hi hf ht).kept hq, fun q hq1 => (h.2.2.1 q hq1).kept hq, h.2.2.2.1.kept hq, h.2.2.2.2.1.kept hq, h.2.2.2.2.2⟩
theorem CFc.narrow {G : GD} {A B : Nat → Prop} {U : State} {H : Heap} (h : CFc G A U H) (hAB : ∀ q, B q → A q) : CFc G B U H :=
  ⟨fun i ci fs hi hf => ⟨(h.1 i ci fs hi hf).1.narrow hAB, fun k v hk => ((h.1 i ci fs hi hf).2 k v hk).narrow hAB⟩, fun i t n f hi hf ht => (h.2.1 i t n f hi hf ht).narrow hAB, fun q hq1 => (h.2.2.1 q hq1).narrow hAB, h.2.2.2.1.narrow hAB, h.2.2.2.2.1.narrow hAB, h.2.2.2.2.2⟩
end
section
/-! 04.sw -/
/-! the judgements -/
/-- words that hold of the tables for good but are no 'good words': nest links, castable, declares .. -/
def nwf (w : Cond) : Bool := match w with
  | .fieldLinkNest .. => true
  | .methodLinkNest .. => true
  | .castable .. => true
  | .declares _ => true
  | _ => false
def NW : List Cond := lw_tbl.filter nwf
/-- String constants: class, entry, text, number -/
abbrev SRT : Type := List (String × Nat × String × Nat)
def NWs (U : State) : Prop := ∀ w ∈ NW, va_Nw w U
theorem NWs.warm {s U : State} (hW : s.WarmedH U.vm) (h : NWs s) : NWs U := by
  intro w hw
  have h1 := h w hw
  have h2 := (List.mem_filter.mp hw).2
  cases w <;> first | (simp [nwf] at h2; done) | exact va_Nw.warmF hW h1 | exact va_Nw.warmM hW h1 | exact va_Nw.warmC hW h1 | exact va_Nw.warmD hW h1
/-- the exceptions that are thrown: none is another one -/
def XP : List (String × String) := [("java/lang/IndexOutOfBoundsException", "java/lang/IllegalArgumentException"), ("java/lang/IndexOutOfBoundsException", "java/lang/IllegalStateException"), ("java/lang/IllegalArgumentException", "java/lang/IndexOutOfBoundsException"), ("java/lang/IllegalArgumentException", "java/lang/IllegalStateException"), ("java/lang/IllegalStateException", "java/lang/IndexOutOfBoundsException"), ("java/lang/IllegalStateException", "java/lang/IllegalArgumentException")]
/-- array classes over classes of ours; the exceptions -/
def AOs (U : State) : Prop := va_AO RX1 U ∧ va_AO RX2 U ∧ va_AOA .int U ∧ ∀ q ∈ XP, va_Nc q.1 q.2 U
theorem AOs.moved {u U : State} (hvm : u.vm.Alike U.vm) (h : AOs u) : AOs U := ⟨va_AO.moved hvm h.1, va_AO.moved hvm h.2.1, arrayOver_alikeB hvm h.2.2.1, fun q hq => va_Nc.moved hvm (h.2.2.2 q hq)⟩
def RM (d : Nat) (R : Room) : Prop := 2 * d + 10 ≤ R.frames ∧ 100 * d + 200 ≤ R.locals
def rmOf (d bc bs : Nat) : Room := { frames := 2 * d + 10, cells := bc, slots := bs, locals := 100 * d + 200 }
def cwM (M : MI) : Cond := if M.2.2.2.2 = [] then Cond.code M.1 M.2.1 M.2.2.1 M.2.2.2.1 else Cond.codeWith M.1 M.2.1 M.2.2.1 M.2.2.2.1 M.2.2.2.2
def wsM (M : MI) : List Cond := cwM M :: GT
/-- what stands still in a frame of method M -/
def CX (SR : SRT) (G : GD) (M : MI) (p : Program) (l : Launch) (s : State) (m : MethodId) (args : Array Value) (meth : Method) (c : Code) (A : Nat → Prop) : Prop :=
  p.tables.exec = Jvm.exec ∧ c.code = M.2.1 ∧ meth.sig.returnType = M.2.2.2.1 ∧ c.maxLocals = M.2.2.1 ∧ s.vm.findClass M.1.cls = some m.cls ∧ (∀ w ∈ GT, w.before args s = true) ∧ meth.locks = false ∧ c.exceptionTable.toList = tableOf M.2.2.2.2 ∧ l.stackTraces = false ∧ (M.1.name = "<init>" → meth.name = "<init>") ∧
  va_K G.1 vwCl (tysOf G.2.1) s ∧ NWs s ∧ (∀ q ∈ SR, vk_R q.1 q.2.1 q.2.2.1 (G.2.2.1 q.2.2.2) s) ∧ AOs s ∧ CFc G A s s.heap ∧ (∀ q, s.heap.size ≤ q → A q)
/-- the abstract heap is the real one's picture -/
def HM (G : GD) (A : Nat → Prop) (H0 : Heap) (h : AH) (n : Nat) (H : Heap) (locs : List Loc) (ad : Nat → Nat) : Prop :=
  va_P G.1 vwCl (wsH G ad h n) H ∧ va_D A (wsH G ad h n) ∧ va_S A H0 H locs ∧ nC ≤ n ∧ (∀ i, nC ≤ i → i < n → clE n (h i)) ∧ ∀ i, i < nC → h i = G.2.2.2 i ∧ ad i = G.2.2.1 i ∧ clE nC (h i)
/-- locals and stack -/
def LM (ad : Nat → Nat) (nL n : Nat) (lv : List (Nat × Value)) (st : List Value) (ls : Array Slot) : Prop :=
  lv_has ls nL (lv.map (fun q => (q.1, em ad q.2))) ∧ (∀ q ∈ lv, clV n q.2) ∧ ∀ v ∈ st, clV n v
def Ext (ad0 ad : Nat → Nat) (n0 n : Nat) : Prop := n0 ≤ n ∧ ∀ i, i < n0 → ad i = ad0 i
theorem Ext.rf {ad : Nat → Nat} {n : Nat} : Ext ad ad n n := ⟨Nat.le_refl _, fun _ _ => rfl⟩
theorem Ext.tr {a b c : Nat → Nat} {i j k : Nat} (h : Ext a b i j) (g : Ext b c j k) : Ext a c i k := ⟨Nat.le_trans h.1 g.1, fun x hx => (g.2 x (Nat.lt_of_lt_of_le hx h.1)).trans (h.2 x hx)⟩
def RetAt (M : MI) (pc : Nat) (v : Option Value) : Prop := match v with
  | none => decode M.2.1 pc = .ok (.return_, 1) ∧ M.2.2.2.1 = none
  | some (.int x) => decode M.2.1 pc = .ok (.ireturn, 1) ∧ ∃ ty, M.2.2.2.1 = some ty ∧ narrow ty (.int x) = .int x
  | some (.long _) => decode M.2.1 pc = .ok (.lreturn, 1) ∧ M.2.2.2.1 = some .long
  | some (.ref _) => decode M.2.1 pc = .ok (.areturn, 1) ∧ ∃ rt, M.2.2.2.1 = some rt ∧ ((∃ nm, rt = FieldType.object nm) ∨ ∃ t, rt = FieldType.array t)
  | _ => False
/-- thrown: E, the heap grown from H at most -/
def vx_XH (E : String) (H : Heap) : String → State → State → Prop := fun E' _ t => E' = E ∧ H.size ≤ t.heap.size ∧ ∀ q : Nat, q < H.size → t.heap[q]? = H[q]?
/-- what the ends of the frame give -/
def EN (G : GD) (M : MI) (p : Program) (l : Launch) (e : Env) (R : Room) (s : State) (m : MethodId) (args : Array Value) (below : List Frame) (meth : Method) (c : Code) (A : Nat → Prop) (ad0 : Nat → Nat) (n0 : Nat) (Q : State → Prop) (Post : ARes → AH → Nat → Prop) : Prop :=
  (∀ (H : Heap) (locs : List Loc) (cells slots : Nat) (ls : Array Slot) (ad : Nat → Nat) (h : AH) (n : Nat) (v : Option Value) (pc : Nat), HM G A s.heap h n H locs ad → Ext ad0 ad n0 n → (∀ v', v = some v' → clV n v') → Post (.inl v) h n → cells ≤ R.cells → slots ≤ R.slots → RetAt M pc v →
    W p l e R s m args below meth c H locs cells slots Q (F0 m pc ls (v.map (em ad)).toList)) ∧
  (∀ (H : Heap) (locs : List Loc) (ad : Nat → Nat) (h : AH) (n : Nat) (E : String), HM G A s.heap h n H locs ad → Ext ad0 ad n0 n → Post (.inr E) h n → ∀ t, vx_MQ below (fun _ _ _ _ => False) (vx_XH E H) args s R.cells R.slots A t → Q t)
/-- a place in method M: whatever the frame, it comes to an end as Post says; d: calls deep; bc, bs: cells and slots that may still be made -/
def SW (SR : SRT) (M : MI) (d bc bs : Nat) (pc : Nat) (lv : List (Nat × Value)) (st : List Value) (h : AH) (n : Nat) (Post : ARes → AH → Nat → Prop) : Prop :=
  ∀ (G : GD) (p : Program) (l : Launch) (e : Env) (R : Room) (s : State) (m : MethodId) (args : Array Value) (below : List Frame) (meth : Method) (c : Code) (A : Nat → Prop) (ad0 : Nat → Nat) (n0 : Nat) (Q : State → Prop),
    CX SR G M p l s m args meth c A → RM d R → EN G M p l e R s m args below meth c A ad0 n0 Q Post →
    ∀ (H : Heap) (locs : List Loc) (cells slots : Nat) (ls : Array Slot) (ad : Nat → Nat), HM G A s.heap h n H locs ad → LM ad M.2.2.1 n lv st ls → Ext ad0 ad n0 n → cells + bc ≤ R.cells → slots + bs ≤ R.slots →
    W p l e R s m args below meth c H locs cells slots Q (F0 m pc ls (st.map (em ad)))
/-- what a callee is given, and gives -/
def PicU (SR : SRT) (G : GD) (ad : Nat → Nat) (h : AH) (n sz : Nat) (U : State) : Prop :=
  U.heap.size = sz ∧ va_P G.1 vwCl (wsH G ad h n) U.heap ∧ va_D (fun _ => True) (wsH G ad h n) ∧ nC ≤ n ∧ (∀ i, nC ≤ i → i < n → clE n (h i)) ∧ (∀ i, i < nC → h i = G.2.2.2 i ∧ ad i = G.2.2.1 i ∧ clE nC (h i)) ∧
  va_K G.1 vwCl (tysOf G.2.1) U ∧ NWs U ∧ (∀ q ∈ SR, vk_R q.1 q.2.1 q.2.2.1 (G.2.2.1 q.2.2.2) U) ∧ AOs U ∧ CFc G (va_A (wsH G ad h n) sz) U U.heap
def PicT (G : GD) (A : Nat → Prop) (ad : Nat → Nat) (h : AH) (n : Nat) (t : State) : Prop :=
  va_P G.1 vwCl (wsH G ad h n) t.heap ∧ va_D A (wsH G ad h n) ∧ nC ≤ n ∧ (∀ i, nC ≤ i → i < n → clE n (h i)) ∧ ∀ i, i < nC → h i = G.2.2.2 i ∧ ad i = G.2.2.1 i ∧ clE nC (h i)
def SQc (G : GD) (A : Nat → Prop) (ad : Nat → Nat) (n : Nat) (Post : ARes → AH → Nat → Prop) : Array Value → State → Outcome → State → Prop := fun _ st o t =>
  (∃ (v : Option Value) (ad' : Nat → Nat) (h' : AH) (n' : Nat), o = .returned (v.map (em ad')) ∧ Post (.inl v) h' n' ∧ Ext ad ad' n n' ∧ (∀ v', v = some v' → clV n' v') ∧ PicT G A ad' h' n' t) ∧ va_F A st t
def SXc (G : GD) (A : Nat → Prop) (ad : Nat → Nat) (n : Nat) (Post : ARes → AH → Nat → Prop) : String → State → State → Prop := fun E st t =>
  (∃ (ad' : Nat → Nat) (h' : AH) (n' : Nat), Post (.inr E) h' n' ∧ Ext ad ad' n n' ∧ PicT G A ad' h' n' t) ∧ va_F A st t
/-- method M, called with as in the heap h of n things, ends as Post says -/
def SM (SR : SRT) (M : MI) (d bc bs : Nat) (as : List Value) (h : AH) (n : Nat) (Post : ARes → AH → Nat → Prop) : Prop :=
  ∀ (l : Launch), l.stackTraces = false → ∀ (G : GD) (ad : Nat → Nat) (sz : Nat), (∀ v ∈ as, clV n v) →
    vx_Met l M.1 (wsM M) (rmOf d bc bs) (va_Pc (as.map (em ad)) (PicU SR G ad h n sz)) (SQc G (va_A (wsH G ad h n) sz) ad n Post) (SXc G (va_A (wsH G ad h n) sz) ad n Post) bc bs (va_A (wsH G ad h n) sz)
theorem HM.lt {G : GD} {A : Nat → Prop} {H0 : Heap} {h : AH} {n : Nat} {H : Heap} {locs : List Loc} {ad : Nat → Nat} (hm : HM G A H0 h n H locs ad) : nC ≤ n := hm.2.2.2.1
theorem lv_get {ad : Nat → Nat} {nL n : Nat} {lv : List (Nat × Value)} {st : List Value} {ls : Array Slot} (hl : LM ad nL n lv st ls) {i : Nat} {v : Value} (h : (i, v) ∈ lv) : ls[i]? = some (.val (em ad v)) := hl.1.2.2 (i, em ad v) (List.mem_map.mpr ⟨(i, v), h, rfl⟩)
def lvG (lv : List (Nat × Value)) (i : Nat) : Option Value := match lv with
  | [] => none
  | q :: r => bif q.1 == i then some q.2 else lvG r i
theorem lvG_mem {lv : List (Nat × Value)} {i : Nat} {v : Value} (h : lvG lv i = some v) : (i, v) ∈ lv := by
  induction lv with
  | nil => cases h
  | cons q r ih =>
    unfold lvG at h
    cases hq : q.1 == i with
    | true =>
      rw [hq] at h
      have h1 : q.1 = i := by simpa using hq
      have h2 : q.2 = v := Option.some.inj h
      rw [← h1, ← h2]
      exact List.mem_cons_self
    | false =>
      rw [hq] at h
      exact List.mem_cons_of_mem _ (ih h)
theorem LM.stk {ad : Nat → Nat} {nL n : Nat} {lv : List (Nat × Value)} {st st' : List Value} {ls : Array Slot} (h : LM ad nL n lv st ls) (g : ∀ v ∈ st', clV n v) : LM ad nL n lv st' ls := ⟨h.1, h.2.1, g⟩
theorem clV_int {n : Nat} {x : Int32} : clV n (.int x) := fun _ h => by cases h
theorem clV_long {n : Nat} {x : Int64} : clV n (.long x) := fun _ h => by cases h
theorem clV_null {n : Nat} : clV n .null := fun _ h => by cases h
theorem cl1 {n : Nat} {v : Value} {st : List Value} (h : ∀ w ∈ v :: st, clV n w) : ∀ w ∈ st, clV n w := fun w hw => h w (List.mem_cons_of_mem _ hw)
theorem cl2 {n : Nat} {v u : Value} {st : List Value} (h : ∀ w ∈ u :: v :: st, clV n w) : ∀ w ∈ st, clV n w := cl1 (cl1 h)
theorem clc {n : Nat} {v : Value} {st : List Value} (h : ∀ w ∈ st, clV n w) (g : clV n v) : ∀ w ∈ v :: st, clV n w := fun w hw => (List.mem_cons.mp hw).elim (fun e => e ▸ g) (h w)
theorem em_cat {ad : Nat → Nat} {v : Value} : (em ad v).category = v.category := by cases v <;> rfl
/-- the locals after a store of one slot -/
def lvS (i : Nat) (v : Value) (lv : List (Nat × Value)) : List (Nat × Value) := (i, v) :: lv.filter (fun q => !(q.1 == i) && !(q.1 + 1 == i && q.2.category == 2))
def lvS2 (i : Nat) (v : Value) (lv : List (Nat × Value)) : List (Nat × Value) := (i, v) :: lv.filter (fun q => !(q.1 == i) && (!(q.1 == i + 1) && !(q.1 + 1 == i && q.2.category == 2)))
theorem lvS_map {ad : Nat → Nat} {i : Nat} {v : Value} {lv : List (Nat × Value)} : (i, em ad v) :: (lv.map (fun q => (q.1, em ad q.2))).filter (fun q => !(q.1 == i) && !(q.1 + 1 == i && q.2.category == 2)) = (lvS i v lv).map (fun q => (q.1, em ad q.2)) := by
  unfold lvS
  rw [List.map_cons, List.filter_map]
  congr 2
  apply List.filter_congr
  intro q _
  show (!(q.1 == i) && !(q.1 + 1 == i && (em ad q.2).category == 2)) = _
  rw [em_cat]
theorem lvS2_map {ad : Nat → Nat} {i : Nat} {v : Value} {lv : List (Nat × Value)} : (i, em ad v) :: (lv.map (fun q => (q.1, em ad q.2))).filter (fun q => !(q.1 == i) && (!(q.1 == i + 1) && !(q.1 + 1 == i && q.2.category == 2))) = (lvS2 i v lv).map (fun q => (q.1, em ad q.2)) := by
  unfold lvS2
  rw [List.map_cons, List.filter_map]
  congr 2
  apply List.filter_congr
  intro q _
  show (!(q.1 == i) && (!(q.1 == i + 1) && !(q.1 + 1 == i && (em ad q.2).category == 2))) = _
  rw [em_cat]
theorem lvS_cl {n i : Nat} {v : Value} {lv : List (Nat × Value)} (h : ∀ q ∈ lv, clV n q.2) (g : clV n v) : ∀ q ∈ lvS i v lv, clV n q.2 := fun q hq => (List.mem_cons.mp hq).elim (fun e => by rw [e]; exact g) (fun h1 => h q (List.mem_filter.mp h1).1)
theorem lvS2_cl {n i : Nat} {v : Value} {lv : List (Nat × Value)} (h : ∀ q ∈ lv, clV n q.2) (g : clV n v) : ∀ q ∈ lvS2 i v lv, clV n q.2 := fun q hq => (List.mem_cons.mp hq).elim (fun e => by rw [e]; exact g) (fun h1 => h q (List.mem_filter.mp h1).1)
end
section
/-! 05.rules -/
section
variable {SR : SRT} {M : MI} {d bc bs pc pc' tgt n : Nat} {lv : List (Nat × Value)} {st : List Value} {h : AH} {Post : ARes → AH → Nat → Prop}
theorem sw_iconst {k0 : Int} {v : Int32} (hp : pc + 1 = pc') (hdg : decode M.2.1 pc = .ok (.iconst k0, 1)) (hv : Int32.ofInt k0 = v) (k : SW SR M d bc bs pc' lv (.int v :: st) h n Post) : SW SR M d bc bs pc lv (st) h n Post := by
  subst hp
  intro G p l e R s m args below meth c A ad0 n0 Q hc hr he H locs cells slots ls ad hm hl hx hbc hbs
  have hk := k G p l e R s m args below meth c A ad0 n0 Q hc hr he H locs cells slots ls ad hm (hl.stk (clc hl.2.2 clV_int)) hx hbc hbs
  exact lv_iconst hc.1 hc.2.1 hdg hv hk
theorem sw_bipush {k0 : Int} {v : Int32} (hp : pc + 2 = pc') (hdg : decode M.2.1 pc = .ok (.bipush k0, 2)) (hv : (Int8.ofInt k0).toInt32 = v) (k : SW SR M d bc bs pc' lv (.int v :: st) h n Post) : SW SR M d bc bs pc lv (st) h n Post := by
  subst hp
  intro G p l e R s m args below meth c A ad0 n0 Q hc hr he H locs cells slots ls ad hm hl hx hbc hbs
  have hk := k G p l e R s m args below meth c A ad0 n0 Q hc hr he H locs cells slots ls ad hm (hl.stk (clc hl.2.2 clV_int)) hx hbc hbs
  exact lv_bipush hc.1 hc.2.1 hdg hv hk
theorem sw_sipush {k0 : Int} {v : Int32} (hp : pc + 3 = pc') (hdg : decode M.2.1 pc = .ok (.sipush k0, 3)) (hv : (Int16.ofInt k0).toInt32 = v) (k : SW SR M d bc bs pc' lv (.int v :: st) h n Post) : SW SR M d bc bs pc lv (st) h n Post := by
  subst hp
  intro G p l e R s m args below meth c A ad0 n0 Q hc hr he H locs cells slots ls ad hm hl hx hbc hbs
  have hk := k G p l e R s m args below meth c A ad0 n0 Q hc hr he H locs cells slots ls ad hm (hl.stk (clc hl.2.2 clV_int)) hx hbc hbs
  exact lv_sipush hc.1 hc.2.1 hdg hv hk
theorem sw_lconst {k0 : Fin 2} {v : Int64} (hp : pc + 1 = pc') (hdg : decode M.2.1 pc = .ok (.lconst k0, 1)) (hv : Int64.ofNat (k0 : Nat) = v) (k : SW SR M d bc bs pc' lv (.long v :: st) h n Post) : SW SR M d bc bs pc lv (st) h n Post := by
  subst hp
  intro G p l e R s m args below meth c A ad0 n0 Q hc hr he H locs cells slots ls ad hm hl hx hbc hbs
  have hk := k G p l e R s m args below meth c A ad0 n0 Q hc hr he H locs cells slots ls ad hm (hl.stk (clc hl.2.2 clV_long)) hx hbc hbs
  exact lv_lconst hc.1 hc.2.1 hdg hv hk
theorem sw_iload_n {k0 : Fin 4} {x : Int32} (hp : pc + 1 = pc') (hdg : decode M.2.1 pc = .ok (.iload_n k0, 1)) (hv : lvG lv k0 = some (.int x)) (k : SW SR M d bc bs pc' lv (.int x :: st) h n Post) : SW SR M d bc bs pc lv (st) h n Post := by
  subst hp
  intro G p l e R s m args below meth c A ad0 n0 Q hc hr he H locs cells slots ls ad hm hl hx hbc hbs
  have hk := k G p l e R s m args below meth c A ad0 n0 Q hc hr he H locs cells slots ls ad hm (hl.stk (clc hl.2.2 (hl.2.1 _ (lvG_mem hv)))) hx hbc hbs
  exact lv_iload_n hc.1 hc.2.1 hdg rfl (lv_get hl (lvG_mem hv)) hk
theorem sw_iload {i : Nat} {x : Int32} (hp : pc + 2 = pc') (hdg : decode M.2.1 pc = .ok (.iload i, 2)) (hv : lvG lv i = some (.int x)) (k : SW SR M d bc bs pc' lv (.int x :: st) h n Post) : SW SR M d bc bs pc lv (st) h n Post := by
  subst hp
  intro G p l e R s m args below meth c A ad0 n0 Q hc hr he H locs cells slots ls ad hm hl hx hbc hbs
  have hk := k G p l e R s m args below meth c A ad0 n0 Q hc hr he H locs cells slots ls ad hm (hl.stk (clc hl.2.2 (hl.2.1 _ (lvG_mem hv)))) hx hbc hbs
  exact lv_iload hc.1 hc.2.1 hdg (lv_get hl (lvG_mem hv)) hk
theorem sw_lload_n {k0 : Fin 4} {x : Int64} (hp : pc + 1 = pc') (hdg : decode M.2.1 pc = .ok (.lload_n k0, 1)) (hv : lvG lv k0 = some (.long x)) (k : SW SR M d bc bs pc' lv (.long x :: st) h n Post) : SW SR M d bc bs pc lv (st) h n Post := by
  subst hp
  intro G p l e R s m args below meth c A ad0 n0 Q hc hr he H locs cells slots ls ad hm hl hx hbc hbs
  have hk := k G p l e R s m args below meth c A ad0 n0 Q hc hr he H locs cells slots ls ad hm (hl.stk (clc hl.2.2 (hl.2.1 _ (lvG_mem hv)))) hx hbc hbs
  exact lv_lload_n hc.1 hc.2.1 hdg rfl (lv_get hl (lvG_mem hv)) hk
theorem sw_lload {i : Nat} {x : Int64} (hp : pc + 2 = pc') (hdg : decode M.2.1 pc = .ok (.lload i, 2)) (hv : lvG lv i = some (.long x)) (k : SW SR M d bc bs pc' lv (.long x :: st) h n Post) : SW SR M d bc bs pc lv (st) h n Post := by
  subst hp
  intro G p l e R s m args below meth c A ad0 n0 Q hc hr he H locs cells slots ls ad hm hl hx hbc hbs
  have hk := k G p l e R s m args below meth c A ad0 n0 Q hc hr he H locs cells slots ls ad hm (hl.stk (clc hl.2.2 (hl.2.1 _ (lvG_mem hv)))) hx hbc hbs
  exact lv_lload hc.1 hc.2.1 hdg (lv_get hl (lvG_mem hv)) hk
theorem sw_aload_n {k0 : Fin 4} {x : Nat} (hp : pc + 1 = pc') (hdg : decode M.2.1 pc = .ok (.aload_n k0, 1)) (hv : lvG lv k0 = some (.ref x)) (k : SW SR M d bc bs pc' lv (.ref x :: st) h n Post) : SW SR M d bc bs pc lv (st) h n Post := by
  subst hp
  intro G p l e R s m args below meth c A ad0 n0 Q hc hr he H locs cells slots ls ad hm hl hx hbc hbs
  have hk := k G p l e R s m args below meth c A ad0 n0 Q hc hr he H locs cells slots ls ad hm (hl.stk (clc hl.2.2 (hl.2.1 _ (lvG_mem hv)))) hx hbc hbs
  exact lv_aload_n hc.1 hc.2.1 hdg rfl (lv_get hl (lvG_mem hv)) hk
theorem sw_aload {i : Nat} {x : Nat} (hp : pc + 2 = pc') (hdg : decode M.2.1 pc = .ok (.aload i, 2)) (hv : lvG lv i = some (.ref x)) (k : SW SR M d bc bs pc' lv (.ref x :: st) h n Post) : SW SR M d bc bs pc lv (st) h n Post := by
  subst hp
  intro G p l e R s m args below meth c A ad0 n0 Q hc hr he H locs cells slots ls ad hm hl hx hbc hbs
  have hk := k G p l e R s m args below meth c A ad0 n0 Q hc hr he H locs cells slots ls ad hm (hl.stk (clc hl.2.2 (hl.2.1 _ (lvG_mem hv)))) hx hbc hbs
  exact lv_aload hc.1 hc.2.1 hdg (lv_get hl (lvG_mem hv)) hk
theorem sw_aload_nN {k0 : Fin 4} (hp : pc + 1 = pc') (hdg : decode M.2.1 pc = .ok (.aload_n k0, 1)) (hv : lvG lv k0 = some .null) (k : SW SR M d bc bs pc' lv (.null :: st) h n Post) : SW SR M d bc bs pc lv (st) h n Post := by
  subst hp
  intro G p l e R s m args below meth c A ad0 n0 Q hc hr he H locs cells slots ls ad hm hl hx hbc hbs
  have hk := k G p l e R s m args below meth c A ad0 n0 Q hc hr he H locs cells slots ls ad hm (hl.stk (clc hl.2.2 clV_null)) hx hbc hbs
  exact lv_aload_nN hc.1 hc.2.1 hdg rfl (lv_get hl (lvG_mem hv)) hk
theorem sw_aloadN {i : Nat} (hp : pc + 2 = pc') (hdg : decode M.2.1 pc = .ok (.aload i, 2)) (hv : lvG lv i = some .null) (k : SW SR M d bc bs pc' lv (.null :: st) h n Post) : SW SR M d bc bs pc lv (st) h n Post := by
  subst hp
  intro G p l e R s m args below meth c A ad0 n0 Q hc hr he H locs cells slots ls ad hm hl hx hbc hbs
  have hk := k G p l e R s m args below meth c A ad0 n0 Q hc hr he H locs cells slots ls ad hm (hl.stk (clc hl.2.2 clV_null)) hx hbc hbs
  exact lv_aloadN hc.1 hc.2.1 hdg (lv_get hl (lvG_mem hv)) hk
theorem sw_istore_n {k0 : Fin 4} {x : Int32} {lv' : List (Nat × Value)} (hp : pc + 1 = pc') (hdg : decode M.2.1 pc = .ok (.istore_n k0, 1)) (hn : (k0 : Nat) < M.2.2.1) (hl9 : lvS (k0 : Nat) (.int x) lv = lv') (k : SW SR M d bc bs pc' lv' st h n Post) : SW SR M d bc bs pc lv (.int x :: st) h n Post := by
  subst hp
  subst hl9
  intro G p l e R s m args below meth c A ad0 n0 Q hc hr he H locs cells slots ls ad hm hl hx hbc hbs
  refine lv_istore_n hc.1 hc.2.1 hdg rfl hl.1 hn (lvS_map (v := .int x)) (fun ls' hl' => ?_)
  exact k G p l e R s m args below meth c A ad0 n0 Q hc hr he H locs cells slots ls' ad hm ⟨hl', lvS_cl hl.2.1 (hl.2.2 _ List.mem_cons_self), cl1 hl.2.2⟩ hx hbc hbs
theorem sw_istore {i : Nat} {x : Int32} {lv' : List (Nat × Value)} (hp : pc + 2 = pc') (hdg : decode M.2.1 pc = .ok (.istore i, 2)) (hn : i < M.2.2.1) (hl9 : lvS i (.int x) lv = lv') (k : SW SR M d bc bs pc' lv' st h n Post) : SW SR M d bc bs pc lv (.int x :: st) h n Post := by
  subst hp
  subst hl9
  intro G p l e R s m args below meth c A ad0 n0 Q hc hr he H locs cells slots ls ad hm hl hx hbc hbs
  refine lv_istore hc.1 hc.2.1 hdg hl.1 hn (lvS_map (v := .int x)) (fun ls' hl' => ?_)
  exact k G p l e R s m args below meth c A ad0 n0 Q hc hr he H locs cells slots ls' ad hm ⟨hl', lvS_cl hl.2.1 (hl.2.2 _ List.mem_cons_self), cl1 hl.2.2⟩ hx hbc hbs
theorem sw_lstore_n {k0 : Fin 4} {x : Int64} {lv' : List (Nat × Value)} (hp : pc + 1 = pc') (hdg : decode M.2.1 pc = .ok (.lstore_n k0, 1)) (hn : (k0 : Nat) + 1 < M.2.2.1) (hl9 : lvS2 (k0 : Nat) (.long x) lv = lv') (k : SW SR M d bc bs pc' lv' st h n Post) : SW SR M d bc bs pc lv (.long x :: st) h n Post := by
  subst hp
  subst hl9
  intro G p l e R s m args below meth c A ad0 n0 Q hc hr he H locs cells slots ls ad hm hl hx hbc hbs
  refine lv_lstore_n hc.1 hc.2.1 hdg rfl hl.1 hn (lvS2_map (v := .long x)) (fun ls' hl' => ?_)
  exact k G p l e R s m args below meth c A ad0 n0 Q hc hr he H locs cells slots ls' ad hm ⟨hl', lvS2_cl hl.2.1 (hl.2.2 _ List.mem_cons_self), cl1 hl.2.2⟩ hx hbc hbs
theorem sw_lstore {i : Nat} {x : Int64} {lv' : List (Nat × Value)} (hp : pc + 2 = pc') (hdg : decode M.2.1 pc = .ok (.lstore i, 2)) (hn : i + 1 < M.2.2.1) (hl9 : lvS2 i (.long x) lv = lv') (k : SW SR M d bc bs pc' lv' st h n Post) : SW SR M d bc bs pc lv (.long x :: st) h n Post := by
  subst hp
  subst hl9
  intro G p l e R s m args below meth c A ad0 n0 Q hc hr he H locs cells slots ls ad hm hl hx hbc hbs
  refine lv_lstore hc.1 hc.2.1 hdg hl.1 hn (lvS2_map (v := .long x)) (fun ls' hl' => ?_)
  exact k G p l e R s m args below meth c A ad0 n0 Q hc hr he H locs cells slots ls' ad hm ⟨hl', lvS2_cl hl.2.1 (hl.2.2 _ List.mem_cons_self), cl1 hl.2.2⟩ hx hbc hbs
theorem sw_astore_n {k0 : Fin 4} {x : Nat} {lv' : List (Nat × Value)} (hp : pc + 1 = pc') (hdg : decode M.2.1 pc = .ok (.astore_n k0, 1)) (hn : (k0 : Nat) < M.2.2.1) (hl9 : lvS (k0 : Nat) (.ref x) lv = lv') (k : SW SR M d bc bs pc' lv' st h n Post) : SW SR M d bc bs pc lv (.ref x :: st) h n Post := by
  subst hp
  subst hl9
  intro G p l e R s m args below meth c A ad0 n0 Q hc hr he H locs cells slots ls ad hm hl hx hbc hbs
  refine lv_astore_n hc.1 hc.2.1 hdg rfl hl.1 hn (lvS_map (v := .ref x)) (fun ls' hl' => ?_)
  exact k G p l e R s m args below meth c A ad0 n0 Q hc hr he H locs cells slots ls' ad hm ⟨hl', lvS_cl hl.2.1 (hl.2.2 _ List.mem_cons_self), cl1 hl.2.2⟩ hx hbc hbs
theorem sw_astore {i : Nat} {x : Nat} {lv' : List (Nat × Value)} (hp : pc + 2 = pc') (hdg : decode M.2.1 pc = .ok (.astore i, 2)) (hn : i < M.2.2.1) (hl9 : lvS i (.ref x) lv = lv') (k : SW SR M d bc bs pc' lv' st h n Post) : SW SR M d bc bs pc lv (.ref x :: st) h n Post := by
  subst hp
  subst hl9
  intro G p l e R s m args below meth c A ad0 n0 Q hc hr he H locs cells slots ls ad hm hl hx hbc hbs
  refine lv_astore hc.1 hc.2.1 hdg hl.1 hn (lvS_map (v := .ref x)) (fun ls' hl' => ?_)
  exact k G p l e R s m args below meth c A ad0 n0 Q hc hr he H locs cells slots ls' ad hm ⟨hl', lvS_cl hl.2.1 (hl.2.2 _ List.mem_cons_self), cl1 hl.2.2⟩ hx hbc hbs
theorem sw_astore_nN {k0 : Fin 4} {lv' : List (Nat × Value)} (hp : pc + 1 = pc') (hdg : decode M.2.1 pc = .ok (.astore_n k0, 1)) (hn : (k0 : Nat) < M.2.2.1) (hl9 : lvS (k0 : Nat) (.null) lv = lv') (k : SW SR M d bc bs pc' lv' st h n Post) : SW SR M d bc bs pc lv (.null :: st) h n Post := by
  subst hp
  subst hl9
  intro G p l e R s m args below meth c A ad0 n0 Q hc hr he H locs cells slots ls ad hm hl hx hbc hbs
  refine lv_astore_nN hc.1 hc.2.1 hdg rfl hl.1 hn (lvS_map (v := .null)) (fun ls' hl' => ?_)
  exact k G p l e R s m args below meth c A ad0 n0 Q hc hr he H locs cells slots ls' ad hm ⟨hl', lvS_cl hl.2.1 (hl.2.2 _ List.mem_cons_self), cl1 hl.2.2⟩ hx hbc hbs
theorem sw_astoreN {i : Nat} {lv' : List (Nat × Value)} (hp : pc + 2 = pc') (hdg : decode M.2.1 pc = .ok (.astore i, 2)) (hn : i < M.2.2.1) (hl9 : lvS i (.null) lv = lv') (k : SW SR M d bc bs pc' lv' st h n Post) : SW SR M d bc bs pc lv (.null :: st) h n Post := by
  subst hp
  subst hl9
  intro G p l e R s m args below meth c A ad0 n0 Q hc hr he H locs cells slots ls ad hm hl hx hbc hbs
  refine lv_astoreN hc.1 hc.2.1 hdg hl.1 hn (lvS_map (v := .null)) (fun ls' hl' => ?_)
  exact k G p l e R s m args below meth c A ad0 n0 Q hc hr he H locs cells slots ls' ad hm ⟨hl', lvS_cl hl.2.1 (hl.2.2 _ List.mem_cons_self), cl1 hl.2.2⟩ hx hbc hbs
theorem sw_iinc {i : Nat} {k0 : Int} {x v : Int32} {lv' : List (Nat × Value)} (hp : pc + 3 = pc') (hdg : decode M.2.1 pc = .ok (.iinc i k0, 3)) (hv : lvG lv i = some (.int x)) (hk : x + Int32.ofInt k0 = v) (hn : i < M.2.2.1) (hl9 : lvS i (.int v) lv = lv') (k : SW SR M d bc bs pc' lv' st h n Post) : SW SR M d bc bs pc lv st h n Post := by
  subst hp
  subst hl9
  intro G p l e R s m args below meth c A ad0 n0 Q hc hr he H locs cells slots ls ad hm hl hx hbc hbs
  obtain ⟨k9, hk9⟩ := List.getElem?_of_mem (List.mem_map.mpr ⟨(i, Value.int x), lvG_mem hv, rfl⟩ : (i, em ad (.int x)) ∈ lv.map (fun q => (q.1, em ad q.2)))
  refine lv_iinc hc.1 hc.2.1 hdg hl.1 hk9 hk hn (lvS_map (v := .int v)) (fun ls' hl' => ?_)
  exact k G p l e R s m args below meth c A ad0 n0 Q hc hr he H locs cells slots ls' ad hm ⟨hl', lvS_cl hl.2.1 clV_int, hl.2.2⟩ hx hbc hbs
theorem sw_iadd {x y : Int32} (hp : pc + 1 = pc') (hdg : decode M.2.1 pc = .ok (.iadd, 1)) (k : SW SR M d bc bs pc' lv (.int (x + y) :: st) h n Post) : SW SR M d bc bs pc lv (.int y :: .int x :: st) h n Post := by
  subst hp
  intro G p l e R s m args below meth c A ad0 n0 Q hc hr he H locs cells slots ls ad hm hl hx hbc hbs
  have hk := k G p l e R s m args below meth c A ad0 n0 Q hc hr he H locs cells slots ls ad hm (hl.stk (clc (cl2 hl.2.2) clV_int)) hx hbc hbs
  exact lv_iadd hc.1 hc.2.1 hdg hk
theorem sw_isub {x y : Int32} (hp : pc + 1 = pc') (hdg : decode M.2.1 pc = .ok (.isub, 1)) (k : SW SR M d bc bs pc' lv (.int (x - y) :: st) h n Post) : SW SR M d bc bs pc lv (.int y :: .int x :: st) h n Post := by
  subst hp
  intro G p l e R s m args below meth c A ad0 n0 Q hc hr he H locs cells slots ls ad hm hl hx hbc hbs
  have hk := k G p l e R s m args below meth c A ad0 n0 Q hc hr he H locs cells slots ls ad hm (hl.stk (clc (cl2 hl.2.2) clV_int)) hx hbc hbs
  exact lv_isub hc.1 hc.2.1 hdg hk
theorem sw_imul {x y : Int32} (hp : pc + 1 = pc') (hdg : decode M.2.1 pc = .ok (.imul, 1)) (k : SW SR M d bc bs pc' lv (.int (x * y) :: st) h n Post) : SW SR M d bc bs pc lv (.int y :: .int x :: st) h n Post := by
  subst hp
  intro G p l e R s m args below meth c A ad0 n0 Q hc hr he H locs cells slots ls ad hm hl hx hbc hbs
  have hk := k G p l e R s m args below meth c A ad0 n0 Q hc hr he H locs cells slots ls ad hm (hl.stk (clc (cl2 hl.2.2) clV_int)) hx hbc hbs
  exact lv_imul hc.1 hc.2.1 hdg hk
theorem sw_iand {x y : Int32} (hp : pc + 1 = pc') (hdg : decode M.2.1 pc = .ok (.iand, 1)) (k : SW SR M d bc bs pc' lv (.int (x &&& y) :: st) h n Post) : SW SR M d bc bs pc lv (.int y :: .int x :: st) h n Post := by
  subst hp
  intro G p l e R s m args below meth c A ad0 n0 Q hc hr he H locs cells slots ls ad hm hl hx hbc hbs
  have hk := k G p l e R s m args below meth c A ad0 n0 Q hc hr he H locs cells slots ls ad hm (hl.stk (clc (cl2 hl.2.2) clV_int)) hx hbc hbs
  exact lv_iand hc.1 hc.2.1 hdg hk
theorem sw_ior {x y : Int32} (hp : pc + 1 = pc') (hdg : decode M.2.1 pc = .ok (.ior, 1)) (k : SW SR M d bc bs pc' lv (.int (x ||| y) :: st) h n Post) : SW SR M d bc bs pc lv (.int y :: .int x :: st) h n Post := by
  subst hp
  intro G p l e R s m args below meth c A ad0 n0 Q hc hr he H locs cells slots ls ad hm hl hx hbc hbs
  have hk := k G p l e R s m args below meth c A ad0 n0 Q hc hr he H locs cells slots ls ad hm (hl.stk (clc (cl2 hl.2.2) clV_int)) hx hbc hbs
  exact lv_ior hc.1 hc.2.1 hdg hk
theorem sw_ixor {x y : Int32} (hp : pc + 1 = pc') (hdg : decode M.2.1 pc = .ok (.ixor, 1)) (k : SW SR M d bc bs pc' lv (.int (x ^^^ y) :: st) h n Post) : SW SR M d bc bs pc lv (.int y :: .int x :: st) h n Post := by
  subst hp
  intro G p l e R s m args below meth c A ad0 n0 Q hc hr he H locs cells slots ls ad hm hl hx hbc hbs
  have hk := k G p l e R s m args below meth c A ad0 n0 Q hc hr he H locs cells slots ls ad hm (hl.stk (clc (cl2 hl.2.2) clV_int)) hx hbc hbs
  exact lv_ixor hc.1 hc.2.1 hdg hk
theorem sw_ishl {x y : Int32} (hp : pc + 1 = pc') (hdg : decode M.2.1 pc = .ok (.ishl, 1)) (k : SW SR M d bc bs pc' lv (.int (x <<< (y &&& 31)) :: st) h n Post) : SW SR M d bc bs pc lv (.int y :: .int x :: st) h n Post := by
  subst hp
  intro G p l e R s m args below meth c A ad0 n0 Q hc hr he H locs cells slots ls ad hm hl hx hbc hbs
  have hk := k G p l e R s m args below meth c A ad0 n0 Q hc hr he H locs cells slots ls ad hm (hl.stk (clc (cl2 hl.2.2) clV_int)) hx hbc hbs
  exact lv_ishl hc.1 hc.2.1 hdg hk
theorem sw_ishr {x y : Int32} (hp : pc + 1 = pc') (hdg : decode M.2.1 pc = .ok (.ishr, 1)) (k : SW SR M d bc bs pc' lv (.int (x >>> (y &&& 31)) :: st) h n Post) : SW SR M d bc bs pc lv (.int y :: .int x :: st) h n Post := by
  subst hp
  intro G p l e R s m args below meth c A ad0 n0 Q hc hr he H locs cells slots ls ad hm hl hx hbc hbs
  have hk := k G p l e R s m args below meth c A ad0 n0 Q hc hr he H locs cells slots ls ad hm (hl.stk (clc (cl2 hl.2.2) clV_int)) hx hbc hbs
  exact lv_ishr hc.1 hc.2.1 hdg hk
theorem sw_ladd {x y : Int64} (hp : pc + 1 = pc') (hdg : decode M.2.1 pc = .ok (.ladd, 1)) (k : SW SR M d bc bs pc' lv (.long (x + y) :: st) h n Post) : SW SR M d bc bs pc lv (.long y :: .long x :: st) h n Post := by
  subst hp
  intro G p l e R s m args below meth c A ad0 n0 Q hc hr he H locs cells slots ls ad hm hl hx hbc hbs
  have hk := k G p l e R s m args below meth c A ad0 n0 Q hc hr he H locs cells slots ls ad hm (hl.stk (clc (cl2 hl.2.2) clV_long)) hx hbc hbs
  exact lv_ladd hc.1 hc.2.1 hdg hk
theorem sw_lmul {x y : Int64} (hp : pc + 1 = pc') (hdg : decode M.2.1 pc = .ok (.lmul, 1)) (k : SW SR M d bc bs pc' lv (.long (x * y) :: st) h n Post) : SW SR M d bc bs pc lv (.long y :: .long x :: st) h n Post := by
  subst hp
  intro G p l e R s m args below meth c A ad0 n0 Q hc hr he H locs cells slots ls ad hm hl hx hbc hbs
  have hk := k G p l e R s m args below meth c A ad0 n0 Q hc hr he H locs cells slots ls ad hm (hl.stk (clc (cl2 hl.2.2) clV_long)) hx hbc hbs
  exact lv_lmul hc.1 hc.2.1 hdg hk
theorem sw_lsub {x y : Int64} (hp : pc + 1 = pc') (hdg : decode M.2.1 pc = .ok (.lsub, 1)) (k : SW SR M d bc bs pc' lv (.long (x - y) :: st) h n Post) : SW SR M d bc bs pc lv (.long y :: .long x :: st) h n Post := by
  subst hp
  intro G p l e R s m args below meth c A ad0 n0 Q hc hr he H locs cells slots ls ad hm hl hx hbc hbs
  have hk := k G p l e R s m args below meth c A ad0 n0 Q hc hr he H locs cells slots ls ad hm (hl.stk (clc (cl2 hl.2.2) clV_long)) hx hbc hbs
  exact lv_lsub hc.1 hc.2.1 hdg hk
theorem sw_idiv {x y : Int32} (hp : pc + 1 = pc') (hdg : decode M.2.1 pc = .ok (.idiv, 1)) (hz : ¬ y = 0) (k : SW SR M d bc bs pc' lv (.int (x / y) :: st) h n Post) : SW SR M d bc bs pc lv (.int y :: .int x :: st) h n Post := by
  subst hp
  intro G p l e R s m args below meth c A ad0 n0 Q hc hr he H locs cells slots ls ad hm hl hx hbc hbs
  have hk := k G p l e R s m args below meth c A ad0 n0 Q hc hr he H locs cells slots ls ad hm (hl.stk (clc (cl2 hl.2.2) clV_int)) hx hbc hbs
  exact lv_idiv hc.1 hc.2.1 hdg hz hk
theorem sw_irem {x y : Int32} (hp : pc + 1 = pc') (hdg : decode M.2.1 pc = .ok (.irem, 1)) (hz : ¬ y = 0) (k : SW SR M d bc bs pc' lv (.int (x - x / y * y) :: st) h n Post) : SW SR M d bc bs pc lv (.int y :: .int x :: st) h n Post := by
  subst hp
  intro G p l e R s m args below meth c A ad0 n0 Q hc hr he H locs cells slots ls ad hm hl hx hbc hbs
  have hk := k G p l e R s m args below meth c A ad0 n0 Q hc hr he H locs cells slots ls ad hm (hl.stk (clc (cl2 hl.2.2) clV_int)) hx hbc hbs
  exact lv_irem hc.1 hc.2.1 hdg hz hk
theorem sw_ineg {x : Int32} (hp : pc + 1 = pc') (hdg : decode M.2.1 pc = .ok (.ineg, 1)) (k : SW SR M d bc bs pc' lv (.int (-x) :: st) h n Post) : SW SR M d bc bs pc lv (.int x :: st) h n Post := by
  subst hp
  intro G p l e R s m args below meth c A ad0 n0 Q hc hr he H locs cells slots ls ad hm hl hx hbc hbs
  have hk := k G p l e R s m args below meth c A ad0 n0 Q hc hr he H locs cells slots ls ad hm (hl.stk (clc (cl1 hl.2.2) clV_int)) hx hbc hbs
  exact lv_ineg hc.1 hc.2.1 hdg hk
theorem sw_iushr {x y v : Int32} (hp : pc + 1 = pc') (hdg : decode M.2.1 pc = .ok (.iushr, 1)) (hv : (x.toUInt32 >>> (y.toUInt32 &&& Int32.toUInt32 31)).toInt32 = v) (k : SW SR M d bc bs pc' lv (.int v :: st) h n Post) : SW SR M d bc bs pc lv (.int y :: .int x :: st) h n Post := by
  subst hp
  intro G p l e R s m args below meth c A ad0 n0 Q hc hr he H locs cells slots ls ad hm hl hx hbc hbs
  have hk := k G p l e R s m args below meth c A ad0 n0 Q hc hr he H locs cells slots ls ad hm (hl.stk (clc (cl2 hl.2.2) clV_int)) hx hbc hbs
  exact lv_iushr hc.1 hc.2.1 hdg hv hk
theorem sw_i2l {x : Int32} (hp : pc + 1 = pc') (hdg : decode M.2.1 pc = .ok (.i2l, 1)) (k : SW SR M d bc bs pc' lv (.long x.toInt64 :: st) h n Post) : SW SR M d bc bs pc lv (.int x :: st) h n Post := by
  subst hp
  intro G p l e R s m args below meth c A ad0 n0 Q hc hr he H locs cells slots ls ad hm hl hx hbc hbs
  have hk := k G p l e R s m args below meth c A ad0 n0 Q hc hr he H locs cells slots ls ad hm (hl.stk (clc (cl1 hl.2.2) clV_long)) hx hbc hbs
  exact lv_i2l hc.1 hc.2.1 hdg rfl hk
theorem sw_i2b {x : Int32} (hp : pc + 1 = pc') (hdg : decode M.2.1 pc = .ok (.i2b, 1)) (k : SW SR M d bc bs pc' lv (.int x.toInt8.toInt32 :: st) h n Post) : SW SR M d bc bs pc lv (.int x :: st) h n Post := by
  subst hp
  intro G p l e R s m args below meth c A ad0 n0 Q hc hr he H locs cells slots ls ad hm hl hx hbc hbs
  have hk := k G p l e R s m args below meth c A ad0 n0 Q hc hr he H locs cells slots ls ad hm (hl.stk (clc (cl1 hl.2.2) clV_int)) hx hbc hbs
  exact lv_i2b hc.1 hc.2.1 hdg rfl hk
theorem sw_i2c {x : Int32} (hp : pc + 1 = pc') (hdg : decode M.2.1 pc = .ok (.i2c, 1)) (k : SW SR M d bc bs pc' lv (.int (x.toUInt32 % 65536).toInt32 :: st) h n Post) : SW SR M d bc bs pc lv (.int x :: st) h n Post := by
  subst hp
  intro G p l e R s m args below meth c A ad0 n0 Q hc hr he H locs cells slots ls ad hm hl hx hbc hbs
  have hk := k G p l e R s m args below meth c A ad0 n0 Q hc hr he H locs cells slots ls ad hm (hl.stk (clc (cl1 hl.2.2) clV_int)) hx hbc hbs
  exact lv_i2c hc.1 hc.2.1 hdg rfl hk
theorem sw_lcmp {x y : Int64} (hp : pc + 1 = pc') (hdg : decode M.2.1 pc = .ok (.lcmp, 1)) (k : SW SR M d bc bs pc' lv (.int (lg_cmp x y) :: st) h n Post) : SW SR M d bc bs pc lv (.long y :: .long x :: st) h n Post := by
  subst hp
  intro G p l e R s m args below meth c A ad0 n0 Q hc hr he H locs cells slots ls ad hm hl hx hbc hbs
  have hk := k G p l e R s m args below meth c A ad0 n0 Q hc hr he H locs cells slots ls ad hm (hl.stk (clc (cl2 hl.2.2) clV_int)) hx hbc hbs
  exact W.lcmp hc.1 hc.2.1 hdg hk
theorem sw_dup {v : Value} (hp : pc + 1 = pc') (hdg : decode M.2.1 pc = .ok (.dup, 1)) (hv : v.category = 1) (k : SW SR M d bc bs pc' lv (v :: v :: st) h n Post) : SW SR M d bc bs pc lv (v :: st) h n Post := by
  subst hp
  intro G p l e R s m args below meth c A ad0 n0 Q hc hr he H locs cells slots ls ad hm hl hx hbc hbs
  have hk := k G p l e R s m args below meth c A ad0 n0 Q hc hr he H locs cells slots ls ad hm (hl.stk (clc hl.2.2 (hl.2.2 _ List.mem_cons_self))) hx hbc hbs
  exact lv_dup hc.1 hc.2.1 hdg (em_cat.trans hv) hk
theorem sw_pop {v : Value} (hp : pc + 1 = pc') (hdg : decode M.2.1 pc = .ok (.pop, 1)) (hv : v.category = 1) (k : SW SR M d bc bs pc' lv (st) h n Post) : SW SR M d bc bs pc lv (v :: st) h n Post := by
  subst hp
  intro G p l e R s m args below meth c A ad0 n0 Q hc hr he H locs cells slots ls ad hm hl hx hbc hbs
  have hk := k G p l e R s m args below meth c A ad0 n0 Q hc hr he H locs cells slots ls ad hm (hl.stk (cl1 hl.2.2)) hx hbc hbs
  exact lv_pop hc.1 hc.2.1 hdg (em_cat.trans hv) hk
theorem sw_pop2 {v : Value} (hp : pc + 1 = pc') (hdg : decode M.2.1 pc = .ok (.pop2, 1)) (hv : v.category = 2) (k : SW SR M d bc bs pc' lv (st) h n Post) : SW SR M d bc bs pc lv (v :: st) h n Post := by
  subst hp
  intro G p l e R s m args below meth c A ad0 n0 Q hc hr he H locs cells slots ls ad hm hl hx hbc hbs
  have hk := k G p l e R s m args below meth c A ad0 n0 Q hc hr he H locs cells slots ls ad hm (hl.stk (cl1 hl.2.2)) hx hbc hbs
  exact lv_pop2_2 hc.1 hc.2.1 hdg (em_cat.trans hv) hk
theorem sw_dup_x1 {v u : Value} (hp : pc + 1 = pc') (hdg : decode M.2.1 pc = .ok (.dup_x1, 1)) (hv : v.category = 1) (hu : u.category = 1) (k : SW SR M d bc bs pc' lv (v :: u :: v :: st) h n Post) : SW SR M d bc bs pc lv (v :: u :: st) h n Post := by
  subst hp
  intro G p l e R s m args below meth c A ad0 n0 Q hc hr he H locs cells slots ls ad hm hl hx hbc hbs
  have hk := k G p l e R s m args below meth c A ad0 n0 Q hc hr he H locs cells slots ls ad hm (hl.stk (clc (clc (clc (cl2 hl.2.2) (hl.2.2 _ List.mem_cons_self)) (hl.2.2 _ (List.mem_cons_of_mem _ List.mem_cons_self))) (hl.2.2 _ List.mem_cons_self))) hx hbc hbs
  exact lv_dup_x1 hc.1 hc.2.1 hdg (em_cat.trans hv) (em_cat.trans hu) hk
theorem sw_dup2 {v u : Value} (hp : pc + 1 = pc') (hdg : decode M.2.1 pc = .ok (.dup2, 1)) (hv : v.category = 1) (hu : u.category = 1) (k : SW SR M d bc bs pc' lv (v :: u :: v :: u :: st) h n Post) : SW SR M d bc bs pc lv (v :: u :: st) h n Post := by
  subst hp
  intro G p l e R s m args below meth c A ad0 n0 Q hc hr he H locs cells slots ls ad hm hl hx hbc hbs
  have hk := k G p l e R s m args below meth c A ad0 n0 Q hc hr he H locs cells slots ls ad hm (hl.stk (clc (clc hl.2.2 (hl.2.2 _ (List.mem_cons_of_mem _ List.mem_cons_self))) (hl.2.2 _ List.mem_cons_self))) hx hbc hbs
  exact lv_dup2_11 hc.1 hc.2.1 hdg (em_cat.trans hv) (em_cat.trans hu) hk
theorem sw_null  (hp : pc + 1 = pc') (hdg : decode M.2.1 pc = .ok (.aconst_null, 1)) (k : SW SR M d bc bs pc' lv (.null :: st) h n Post) : SW SR M d bc bs pc lv (st) h n Post := by
  subst hp
  intro G p l e R s m args below meth c A ad0 n0 Q hc hr he H locs cells slots ls ad hm hl hx hbc hbs
  have hk := k G p l e R s m args below meth c A ad0 n0 Q hc hr he H locs cells slots ls ad hm (hl.stk (clc hl.2.2 clV_null)) hx hbc hbs
  exact lv_null hc.1 hc.2.1 hdg hk
theorem sw_if_eq {x : Int32} {off : Int} (hp : pc + 3 = pc') (hdg : decode M.2.1 pc = .ok (.ifCond .eq off, 3)) (ht : (pc : Int) + off = (tgt : Int)) (kt : x = 0 → SW SR M d bc bs tgt lv st h n Post) (kf : ¬ x = 0 → SW SR M d bc bs pc' lv st h n Post) : SW SR M d bc bs pc lv (.int x :: st) h n Post := by
  subst hp
  intro G p l e R s m args below meth c A ad0 n0 Q hc hr he H locs cells slots ls ad hm hl hx hbc hbs
  exact lv_if_eq hc.1 hc.2.1 hdg ht (fun z => kt z G p l e R s m args below meth c A ad0 n0 Q hc hr he H locs cells slots ls ad hm (hl.stk (cl1 hl.2.2)) hx hbc hbs) (fun z => kf z G p l e R s m args below meth c A ad0 n0 Q hc hr he H locs cells slots ls ad hm (hl.stk (cl1 hl.2.2)) hx hbc hbs)
theorem sw_icmp_eq {x y : Int32} {off : Int} (hp : pc + 3 = pc') (hdg : decode M.2.1 pc = .ok (.if_icmp .eq off, 3)) (ht : (pc : Int) + off = (tgt : Int)) (kt : x = y → SW SR M d bc bs tgt lv st h n Post) (kf : ¬ x = y → SW SR M d bc bs pc' lv st h n Post) : SW SR M d bc bs pc lv (.int y :: .int x :: st) h n Post := by
  subst hp
  intro G p l e R s m args below meth c A ad0 n0 Q hc hr he H locs cells slots ls ad hm hl hx hbc hbs
  exact lv_icmp_eq hc.1 hc.2.1 hdg ht (fun z => kt z G p l e R s m args below meth c A ad0 n0 Q hc hr he H locs cells slots ls ad hm (hl.stk (cl2 hl.2.2)) hx hbc hbs) (fun z => kf z G p l e R s m args below meth c A ad0 n0 Q hc hr he H locs cells slots ls ad hm (hl.stk (cl2 hl.2.2)) hx hbc hbs)
theorem sw_if_ne {x : Int32} {off : Int} (hp : pc + 3 = pc') (hdg : decode M.2.1 pc = .ok (.ifCond .ne off, 3)) (ht : (pc : Int) + off = (tgt : Int)) (kt : ¬ x = 0 → SW SR M d bc bs tgt lv st h n Post) (kf : x = 0 → SW SR M d bc bs pc' lv st h n Post) : SW SR M d bc bs pc lv (.int x :: st) h n Post := by
  subst hp
  intro G p l e R s m args below meth c A ad0 n0 Q hc hr he H locs cells slots ls ad hm hl hx hbc hbs
  exact lv_if_ne hc.1 hc.2.1 hdg ht (fun z => kt z G p l e R s m args below meth c A ad0 n0 Q hc hr he H locs cells slots ls ad hm (hl.stk (cl1 hl.2.2)) hx hbc hbs) (fun z => kf z G p l e R s m args below meth c A ad0 n0 Q hc hr he H locs cells slots ls ad hm (hl.stk (cl1 hl.2.2)) hx hbc hbs)
theorem sw_icmp_ne {x y : Int32} {off : Int} (hp : pc + 3 = pc') (hdg : decode M.2.1 pc = .ok (.if_icmp .ne off, 3)) (ht : (pc : Int) + off = (tgt : Int)) (kt : ¬ x = y → SW SR M d bc bs tgt lv st h n Post) (kf : x = y → SW SR M d bc bs pc' lv st h n Post) : SW SR M d bc bs pc lv (.int y :: .int x :: st) h n Post := by
  subst hp
  intro G p l e R s m args below meth c A ad0 n0 Q hc hr he H locs cells slots ls ad hm hl hx hbc hbs
  exact lv_icmp_ne hc.1 hc.2.1 hdg ht (fun z => kt z G p l e R s m args below meth c A ad0 n0 Q hc hr he H locs cells slots ls ad hm (hl.stk (cl2 hl.2.2)) hx hbc hbs) (fun z => kf z G p l e R s m args below meth c A ad0 n0 Q hc hr he H locs cells slots ls ad hm (hl.stk (cl2 hl.2.2)) hx hbc hbs)
theorem sw_if_lt {x : Int32} {off : Int} (hp : pc + 3 = pc') (hdg : decode M.2.1 pc = .ok (.ifCond .lt off, 3)) (ht : (pc : Int) + off = (tgt : Int)) (kt : x < 0 → SW SR M d bc bs tgt lv st h n Post) (kf : ¬ x < 0 → SW SR M d bc bs pc' lv st h n Post) : SW SR M d bc bs pc lv (.int x :: st) h n Post := by
  subst hp
  intro G p l e R s m args below meth c A ad0 n0 Q hc hr he H locs cells slots ls ad hm hl hx hbc hbs
  exact lv_if_lt hc.1 hc.2.1 hdg ht (fun z => kt z G p l e R s m args below meth c A ad0 n0 Q hc hr he H locs cells slots ls ad hm (hl.stk (cl1 hl.2.2)) hx hbc hbs) (fun z => kf z G p l e R s m args below meth c A ad0 n0 Q hc hr he H locs cells slots ls ad hm (hl.stk (cl1 hl.2.2)) hx hbc hbs)
theorem sw_icmp_lt {x y : Int32} {off : Int} (hp : pc + 3 = pc') (hdg : decode M.2.1 pc = .ok (.if_icmp .lt off, 3)) (ht : (pc : Int) + off = (tgt : Int)) (kt : x < y → SW SR M d bc bs tgt lv st h n Post) (kf : ¬ x < y → SW SR M d bc bs pc' lv st h n Post) : SW SR M d bc bs pc lv (.int y :: .int x :: st) h n Post := by
  subst hp
  intro G p l e R s m args below meth c A ad0 n0 Q hc hr he H locs cells slots ls ad hm hl hx hbc hbs
  exact lv_icmp_lt hc.1 hc.2.1 hdg ht (fun z => kt z G p l e R s m args below meth c A ad0 n0 Q hc hr he H locs cells slots ls ad hm (hl.stk (cl2 hl.2.2)) hx hbc hbs) (fun z => kf z G p l e R s m args below meth c A ad0 n0 Q hc hr he H locs cells slots ls ad hm (hl.stk (cl2 hl.2.2)) hx hbc hbs)
theorem sw_if_ge {x : Int32} {off : Int} (hp : pc + 3 = pc') (hdg : decode M.2.1 pc = .ok (.ifCond .ge off, 3)) (ht : (pc : Int) + off = (tgt : Int)) (kt : 0 ≤ x → SW SR M d bc bs tgt lv st h n Post) (kf : ¬ 0 ≤ x → SW SR M d bc bs pc' lv st h n Post) : SW SR M d bc bs pc lv (.int x :: st) h n Post := by
  subst hp
  intro G p l e R s m args below meth c A ad0 n0 Q hc hr he H locs cells slots ls ad hm hl hx hbc hbs
  exact lv_if_ge hc.1 hc.2.1 hdg ht (fun z => kt z G p l e R s m args below meth c A ad0 n0 Q hc hr he H locs cells slots ls ad hm (hl.stk (cl1 hl.2.2)) hx hbc hbs) (fun z => kf z G p l e R s m args below meth c A ad0 n0 Q hc hr he H locs cells slots ls ad hm (hl.stk (cl1 hl.2.2)) hx hbc hbs)
theorem sw_icmp_ge {x y : Int32} {off : Int} (hp : pc + 3 = pc') (hdg : decode M.2.1 pc = .ok (.if_icmp .ge off, 3)) (ht : (pc : Int) + off = (tgt : Int)) (kt : y ≤ x → SW SR M d bc bs tgt lv st h n Post) (kf : ¬ y ≤ x → SW SR M d bc bs pc' lv st h n Post) : SW SR M d bc bs pc lv (.int y :: .int x :: st) h n Post := by
  subst hp
  intro G p l e R s m args below meth c A ad0 n0 Q hc hr he H locs cells slots ls ad hm hl hx hbc hbs
  exact lv_icmp_ge hc.1 hc.2.1 hdg ht (fun z => kt z G p l e R s m args below meth c A ad0 n0 Q hc hr he H locs cells slots ls ad hm (hl.stk (cl2 hl.2.2)) hx hbc hbs) (fun z => kf z G p l e R s m args below meth c A ad0 n0 Q hc hr he H locs cells slots ls ad hm (hl.stk (cl2 hl.2.2)) hx hbc hbs)
theorem sw_if_gt {x : Int32} {off : Int} (hp : pc + 3 = pc') (hdg : decode M.2.1 pc = .ok (.ifCond .gt off, 3)) (ht : (pc : Int) + off = (tgt : Int)) (kt : 0 < x → SW SR M d bc bs tgt lv st h n Post) (kf : ¬ 0 < x → SW SR M d bc bs pc' lv st h n Post) : SW SR M d bc bs pc lv (.int x :: st) h n Post := by
  subst hp
  intro G p l e R s m args below meth c A ad0 n0 Q hc hr he H locs cells slots ls ad hm hl hx hbc hbs
  exact lv_if_gt hc.1 hc.2.1 hdg ht (fun z => kt z G p l e R s m args below meth c A ad0 n0 Q hc hr he H locs cells slots ls ad hm (hl.stk (cl1 hl.2.2)) hx hbc hbs) (fun z => kf z G p l e R s m args below meth c A ad0 n0 Q hc hr he H locs cells slots ls ad hm (hl.stk (cl1 hl.2.2)) hx hbc hbs)
theorem sw_icmp_gt {x y : Int32} {off : Int} (hp : pc + 3 = pc') (hdg : decode M.2.1 pc = .ok (.if_icmp .gt off, 3)) (ht : (pc : Int) + off = (tgt : Int)) (kt : y < x → SW SR M d bc bs tgt lv st h n Post) (kf : ¬ y < x → SW SR M d bc bs pc' lv st h n Post) : SW SR M d bc bs pc lv (.int y :: .int x :: st) h n Post := by
  subst hp
  intro G p l e R s m args below meth c A ad0 n0 Q hc hr he H locs cells slots ls ad hm hl hx hbc hbs
  exact lv_icmp_gt hc.1 hc.2.1 hdg ht (fun z => kt z G p l e R s m args below meth c A ad0 n0 Q hc hr he H locs cells slots ls ad hm (hl.stk (cl2 hl.2.2)) hx hbc hbs) (fun z => kf z G p l e R s m args below meth c A ad0 n0 Q hc hr he H locs cells slots ls ad hm (hl.stk (cl2 hl.2.2)) hx hbc hbs)
theorem sw_if_le {x : Int32} {off : Int} (hp : pc + 3 = pc') (hdg : decode M.2.1 pc = .ok (.ifCond .le off, 3)) (ht : (pc : Int) + off = (tgt : Int)) (kt : x ≤ 0 → SW SR M d bc bs tgt lv st h n Post) (kf : ¬ x ≤ 0 → SW SR M d bc bs pc' lv st h n Post) : SW SR M d bc bs pc lv (.int x :: st) h n Post := by
  subst hp
  intro G p l e R s m args below meth c A ad0 n0 Q hc hr he H locs cells slots ls ad hm hl hx hbc hbs
  exact lv_if_le hc.1 hc.2.1 hdg ht (fun z => kt z G p l e R s m args below meth c A ad0 n0 Q hc hr he H locs cells slots ls ad hm (hl.stk (cl1 hl.2.2)) hx hbc hbs) (fun z => kf z G p l e R s m args below meth c A ad0 n0 Q hc hr he H locs cells slots ls ad hm (hl.stk (cl1 hl.2.2)) hx hbc hbs)
theorem sw_icmp_le {x y : Int32} {off : Int} (hp : pc + 3 = pc') (hdg : decode M.2.1 pc = .ok (.if_icmp .le off, 3)) (ht : (pc : Int) + off = (tgt : Int)) (kt : x ≤ y → SW SR M d bc bs tgt lv st h n Post) (kf : ¬ x ≤ y → SW SR M d bc bs pc' lv st h n Post) : SW SR M d bc bs pc lv (.int y :: .int x :: st) h n Post := by
  subst hp
  intro G p l e R s m args below meth c A ad0 n0 Q hc hr he H locs cells slots ls ad hm hl hx hbc hbs
  exact lv_icmp_le hc.1 hc.2.1 hdg ht (fun z => kt z G p l e R s m args below meth c A ad0 n0 Q hc hr he H locs cells slots ls ad hm (hl.stk (cl2 hl.2.2)) hx hbc hbs) (fun z => kf z G p l e R s m args below meth c A ad0 n0 Q hc hr he H locs cells slots ls ad hm (hl.stk (cl2 hl.2.2)) hx hbc hbs)
theorem sw_goto {off : Int} (hdg : decode M.2.1 pc = .ok (.goto off, 3)) (ht : (pc : Int) + off = (tgt : Int)) (k : SW SR M d bc bs tgt lv st h n Post) : SW SR M d bc bs pc lv st h n Post := by
  intro G p l e R s m args below meth c A ad0 n0 Q hc hr he H locs cells slots ls ad hm hl hx hbc hbs
  exact lv_goto hc.1 hc.2.1 hdg ht (k G p l e R s m args below meth c A ad0 n0 Q hc hr he H locs cells slots ls ad hm hl hx hbc hbs)
theorem sw_tableOut {dflt lo hi : Int} {offs : Array Int} {len : Nat} {x : Int32} (hdg : decode M.2.1 pc = .ok (.tableswitch dflt lo hi offs, len)) (hz : x.toInt < lo ∨ hi < x.toInt) (ht : (pc : Int) + dflt = (tgt : Int)) (k : SW SR M d bc bs tgt lv st h n Post) : SW SR M d bc bs pc lv (.int x :: st) h n Post := by
  intro G p l e R s m args below meth c A ad0 n0 Q hc hr he H locs cells slots ls ad hm hl hx hbc hbs
  exact lv_tableOut hc.1 hc.2.1 hdg hz ht (k G p l e R s m args below meth c A ad0 n0 Q hc hr he H locs cells slots ls ad hm (hl.stk (cl1 hl.2.2)) hx hbc hbs)
theorem sw_tableIn {dflt lo hi : Int} {offs : Array Int} {len : Nat} {x : Int32} {off : Int} (hdg : decode M.2.1 pc = .ok (.tableswitch dflt lo hi offs, len)) (h1 : ¬ x.toInt < lo) (h2 : ¬ hi < x.toInt) (ho : offs[(x.toInt - lo).toNat]? = some off) (ht : (pc : Int) + off = (tgt : Int)) (k : SW SR M d bc bs tgt lv st h n Post) : SW SR M d bc bs pc lv (.int x :: st) h n Post := by
  intro G p l e R s m args below meth c A ad0 n0 Q hc hr he H locs cells slots ls ad hm hl hx hbc hbs
  exact lv_tableIn hc.1 hc.2.1 hdg h1 h2 ho ht (k G p l e R s m args below meth c A ad0 n0 Q hc hr he H locs cells slots ls ad hm (hl.stk (cl1 hl.2.2)) hx hbc hbs)
theorem sw_ifnull {x : Nat} {off : Int} (hp : pc + 3 = pc') (hdg : decode M.2.1 pc = .ok (.ifnull off, 3)) (k : SW SR M d bc bs pc' lv st h n Post) : SW SR M d bc bs pc lv (.ref x :: st) h n Post := by
  subst hp
  intro G p l e R s m args below meth c A ad0 n0 Q hc hr he H locs cells slots ls ad hm hl hx hbc hbs
  exact lv_ifnull hc.1 hc.2.1 hdg (k G p l e R s m args below meth c A ad0 n0 Q hc hr he H locs cells slots ls ad hm (hl.stk (cl1 hl.2.2)) hx hbc hbs)
theorem sw_ifnonnullN  {off : Int} (hp : pc + 3 = pc') (hdg : decode M.2.1 pc = .ok (.ifnonnull off, 3)) (k : SW SR M d bc bs pc' lv st h n Post) : SW SR M d bc bs pc lv (.null :: st) h n Post := by
  subst hp
  intro G p l e R s m args below meth c A ad0 n0 Q hc hr he H locs cells slots ls ad hm hl hx hbc hbs
  exact lv_ifnonnullN hc.1 hc.2.1 hdg (k G p l e R s m args below meth c A ad0 n0 Q hc hr he H locs cells slots ls ad hm (hl.stk (cl1 hl.2.2)) hx hbc hbs)
theorem sw_ifnonnull {x : Nat} {off : Int} (hdg : decode M.2.1 pc = .ok (.ifnonnull off, 3)) (ht : (pc : Int) + off = (tgt : Int)) (k : SW SR M d bc bs tgt lv st h n Post) : SW SR M d bc bs pc lv (.ref x :: st) h n Post := by
  intro G p l e R s m args below meth c A ad0 n0 Q hc hr he H locs cells slots ls ad hm hl hx hbc hbs
  exact lv_ifnonnull hc.1 hc.2.1 hdg ht (k G p l e R s m args below meth c A ad0 n0 Q hc hr he H locs cells slots ls ad hm (hl.stk (cl1 hl.2.2)) hx hbc hbs)
theorem sw_ifnullN  {off : Int} (hdg : decode M.2.1 pc = .ok (.ifnull off, 3)) (ht : (pc : Int) + off = (tgt : Int)) (k : SW SR M d bc bs tgt lv st h n Post) : SW SR M d bc bs pc lv (.null :: st) h n Post := by
  intro G p l e R s m args below meth c A ad0 n0 Q hc hr he H locs cells slots ls ad hm hl hx hbc hbs
  exact lv_ifnullN hc.1 hc.2.1 hdg ht (k G p l e R s m args below meth c A ad0 n0 Q hc hr he H locs cells slots ls ad hm (hl.stk (cl1 hl.2.2)) hx hbc hbs)
theorem sw_ldc2 {index : Nat} {v : Int64} (hp : pc + 3 = pc') (hdg : decode M.2.1 pc = .ok (.ldc2_w index, 3)) (hw : Cond.constantLong M.1.cls index v ∈ GT) (k : SW SR M d bc bs pc' lv (.long v :: st) h n Post) : SW SR M d bc bs pc lv st h n Post := by
  subst hp
  intro G p l e R s m args below meth c A ad0 n0 Q hc hr he H locs cells slots ls ad hm hl hx hbc hbs
  exact lv_ldc2 hc.1 hc.2.1 hc.2.2.2.2.1 (hc.2.2.2.2.2.1 _ hw) hdg (k G p l e R s m args below meth c A ad0 n0 Q hc hr he H locs cells slots ls ad hm (hl.stk (clc hl.2.2 clV_long)) hx hbc hbs)
theorem sw_ldci {index : Nat} {v : Int32} (hp : pc + 2 = pc') (hdg : decode M.2.1 pc = .ok (.ldc index, 2)) (hw : Cond.constant M.1.cls index v ∈ GT) (k : SW SR M d bc bs pc' lv (.int v :: st) h n Post) : SW SR M d bc bs pc lv st h n Post := by
  subst hp
  intro G p l e R s m args below meth c A ad0 n0 Q hc hr he H locs cells slots ls ad hm hl hx hbc hbs
  exact lv_ldc hc.1 hc.2.1 hc.2.2.2.2.1 (hc.2.2.2.2.2.1 _ hw) hdg (k G p l e R s m args below meth c A ad0 n0 Q hc hr he H locs cells slots ls ad hm (hl.stk (clc hl.2.2 clV_int)) hx hbc hbs)
theorem sw_ldciw {index : Nat} {v : Int32} (hp : pc + 3 = pc') (hdg : decode M.2.1 pc = .ok (.ldc_w index, 3)) (hw : Cond.constant M.1.cls index v ∈ GT) (k : SW SR M d bc bs pc' lv (.int v :: st) h n Post) : SW SR M d bc bs pc lv st h n Post := by
  subst hp
  intro G p l e R s m args below meth c A ad0 n0 Q hc hr he H locs cells slots ls ad hm hl hx hbc hbs
  exact lv_ldcw hc.1 hc.2.1 hc.2.2.2.2.1 (hc.2.2.2.2.2.1 _ hw) hdg (k G p l e R s m args below meth c A ad0 n0 Q hc hr he H locs cells slots ls ad hm (hl.stk (clc hl.2.2 clV_int)) hx hbc hbs)
theorem sw_ldcs {index i : Nat} {tx : String} (hp : pc + 2 = pc') (hdg : decode M.2.1 pc = .ok (.ldc index, 2)) (hw : (M.1.cls, index, tx, i) ∈ SR) (hi : i < nC) (k : SW SR M d bc bs pc' lv (.ref i :: st) h n Post) : SW SR M d bc bs pc lv st h n Post := by
  subst hp
  intro G p l e R s m args below meth c A ad0 n0 Q hc hr he H locs cells slots ls ad hm hl hx hbc hbs
  have hz := hc.2.2.2.2.2.2.2.2.2.2.2.2.1 _ hw
  rw [← (hm.2.2.2.2.2 i hi).2.1] at hz
  exact va_ldcS hc.1 hc.2.1 hc.2.2.2.2.1 hz hdg (k G p l e R s m args below meth c A ad0 n0 Q hc hr he H locs cells slots ls ad hm (hl.stk (clc hl.2.2 (fun j hj => by cases hj; exact Nat.lt_of_lt_of_le hi hm.lt))) hx hbc hbs)
theorem sw_ret {v : Option Value} (hr9 : RetAt M pc v) (hP : Post (.inl v) h n) : SW SR M d bc bs pc lv v.toList h n Post := by
  intro G p l e R s m args below meth c A ad0 n0 Q hc hr he H locs cells slots ls ad hm hl hx hbc hbs
  have h9 := he.1 H locs cells slots ls ad h n v pc hm hx (fun v' e => hl.2.2 v' (by rw [e]; exact List.mem_cons_self)) hP (by omega) (by omega) hr9
  cases v <;> exact h9
theorem sw_conseq {Post' : ARes → AH → Nat → Prop} (k : SW SR M d bc bs pc lv st h n Post') (hPP : ∀ r h n, Post' r h n → Post r h n) : SW SR M d bc bs pc lv st h n Post := by
  intro G p l e R s m args below meth c A ad0 n0 Q hc hr he H locs cells slots ls ad hm hl hx hbc hbs
  exact k G p l e R s m args below meth c A ad0 n0 Q hc hr ⟨fun H locs cells slots ls ad h n v pc a1 a2 a3 a4 => he.1 H locs cells slots ls ad h n v pc a1 a2 a3 (hPP _ _ _ a4), fun H locs ad h n E a1 a2 a3 => he.2 H locs ad h n E a1 a2 (hPP _ _ _ a3)⟩ H locs cells slots ls ad hm hl hx hbc hbs
/-- the constants are what they are -/
theorem sw_known (k : (nC ≤ n ∧ (∀ i, nC ≤ i → i < n → clE n (h i)) ∧ (∀ v ∈ st, clV n v) ∧ ∀ q ∈ lv, clV n q.2) → SW SR M d bc bs pc lv st h n Post) : SW SR M d bc bs pc lv st h n Post := by
  intro G p l e R s m args below meth c A ad0 n0 Q hc hr he H locs cells slots ls ad hm hl hx hbc hbs
  exact k ⟨hm.lt, hm.2.2.2.2.1, hl.2.2, hl.2.1⟩ G p l e R s m args below meth c A ad0 n0 Q hc hr he H locs cells slots ls ad hm hl hx hbc hbs
theorem sw_bud {bc' bs' : Nat} (k : SW SR M d bc' bs' pc lv st h n Post) (h1 : bc' ≤ bc) (h2 : bs' ≤ bs) : SW SR M d bc bs pc lv st h n Post := by
  intro G p l e R s m args below meth c A ad0 n0 Q hc hr he H locs cells slots ls ad hm hl hx hbc hbs
  exact k G p l e R s m args below meth c A ad0 n0 Q hc hr he H locs cells slots ls ad hm hl hx (by omega) (by omega)
theorem sw_loc {lv' : List (Nat × Value)} (k : SW SR M d bc bs pc lv' st h n Post) (hs : ∀ q ∈ lv', q ∈ lv) : SW SR M d bc bs pc lv st h n Post := by
  intro G p l e R s m args below meth c A ad0 n0 Q hc hr he H locs cells slots ls ad hm hl hx hbc hbs
  exact k G p l e R s m args below meth c A ad0 n0 Q hc hr he H locs cells slots ls ad hm ⟨⟨hl.1.1, hl.1.2.1, fun q hq => by
    obtain ⟨z, hz, rfl⟩ := List.mem_map.mp hq
    exact hl.1.2.2 _ (List.mem_map.mpr ⟨z, hs z hz, rfl⟩)⟩, fun q hq => hl.2.1 q (hs q hq), hl.2.2⟩ hx hbc hbs
end
end
section
/-! 05w.words -/
def AGw : List Cond → Prop
  | [] => True
  | a :: l => (goodWord a = true → a ∈ GT) ∧ AGw l
theorem agw_of : ∀ (l : List Cond), (∀ w ∈ l, w ∈ lw_tbl) → AGw l
  | [], _ => trivial
  | a :: l, h => ⟨fun g => List.mem_filter.mpr ⟨h a (.head _), g⟩, agw_of l (fun w hw => h w (.tail _ hw))⟩
theorem agw_p : AGw (k2_sels lw_privs) := agw_of _ (fun w h => by unfold lw_tbl; exact List.mem_append_left _ h)
theorem agw_x : AGw lw_xsel := agw_of _ (fun w h => by unfold lw_tbl; exact List.mem_append_right _ (List.mem_append_right _ h))
theorem gtw {a : Cond} (h : a ∈ tables_1) (g : goodWord a = true) : a ∈ GT := List.mem_filter.mpr ⟨by unfold lw_tbl; exact List.mem_append_right _ (List.mem_append_left _ h), g⟩
theorem w_0 : (Jvm.Cond.selects "Overwalks" ({ cls := "Overwalks", name := "giveTheSame", desc := "(III)Z" } : Jvm.MethodName) ({ cls := "Overwalks", name := "giveTheSame", desc := "(III)Z" } : Jvm.MethodName)) ∈ GT := agw_p.1 rfl
theorem w_1 : (Jvm.Cond.selects "Overwalks" ({ cls := "Overwalks", name := "isItsList", desc := "(I)Z" } : Jvm.MethodName) ({ cls := "Overwalks", name := "isItsList", desc := "(I)Z" } : Jvm.MethodName)) ∈ GT := agw_p.2.1 rfl
theorem w_2 : (Jvm.Cond.selects "Overwalks" ({ cls := "Overwalks", name := "isItsListBehindOneStep", desc := "(I)Z" } : Jvm.MethodName) ({ cls := "Overwalks", name := "isItsListBehindOneStep", desc := "(I)Z" } : Jvm.MethodName)) ∈ GT := agw_p.2.2.1 rfl
theorem w_3 : (Jvm.Cond.selects "Overwalks" ({ cls := "Overwalks", name := "countThings", desc := "()I" } : Jvm.MethodName) ({ cls := "Overwalks", name := "countThings", desc := "()I" } : Jvm.MethodName)) ∈ GT := agw_p.2.2.2.1 rfl
theorem w_4 : (Jvm.Cond.selects "Overwalks" ({ cls := "Overwalks", name := "countNothings", desc := "()I" } : Jvm.MethodName) ({ cls := "Overwalks", name := "countNothings", desc := "()I" } : Jvm.MethodName)) ∈ GT := agw_p.2.2.2.2.1 rfl
theorem w_5 : (Jvm.Cond.selects "Overwalks" ({ cls := "Overwalks", name := "countWalks", desc := "()I" } : Jvm.MethodName) ({ cls := "Overwalks", name := "countWalks", desc := "()I" } : Jvm.MethodName)) ∈ GT := agw_p.2.2.2.2.2.1 rfl
theorem w_6 : (Jvm.Cond.selects "Overwalks" ({ cls := "Overwalks", name := "countStaleWalks", desc := "()I" } : Jvm.MethodName) ({ cls := "Overwalks", name := "countStaleWalks", desc := "()I" } : Jvm.MethodName)) ∈ GT := agw_p.2.2.2.2.2.2.1 rfl
theorem w_8 : (Jvm.Cond.selects "Overwalks" ({ cls := "Overwalks", name := "walkAt", desc := "(I)LOverwalks$Walk;" } : Jvm.MethodName) ({ cls := "Overwalks", name := "walkAt", desc := "(I)LOverwalks$Walk;" } : Jvm.MethodName)) ∈ GT := agw_p.2.2.2.2.2.2.2.2.1 rfl
theorem w_9 : (Jvm.Cond.selects "Overwalks" ({ cls := "Overwalks", name := "shelfAt", desc := "(I)LOverwalks$Shelf;" } : Jvm.MethodName) ({ cls := "Overwalks", name := "shelfAt", desc := "(I)LOverwalks$Shelf;" } : Jvm.MethodName)) ∈ GT := agw_p.2.2.2.2.2.2.2.2.2.1 rfl
theorem w_10 : (Jvm.Cond.selects "Overwalks" ({ cls := "Overwalks", name := "refuse", desc := "()I" } : Jvm.MethodName) ({ cls := "Overwalks", name := "refuse", desc := "()I" } : Jvm.MethodName)) ∈ GT := agw_p.2.2.2.2.2.2.2.2.2.2.1 rfl
theorem w_11 : (Jvm.Cond.selects "Overwalks" ({ cls := "Overwalks", name := "liftFrom", desc := "(LOverwalks$Shelf;I)V" } : Jvm.MethodName) ({ cls := "Overwalks", name := "liftFrom", desc := "(LOverwalks$Shelf;I)V" } : Jvm.MethodName)) ∈ GT := agw_p.2.2.2.2.2.2.2.2.2.2.2.1 rfl
theorem w_12 : (Jvm.Cond.selects "Overwalks" ({ cls := "Overwalks", name := "rowAt", desc := "(I)LOverwalks$Shelf;" } : Jvm.MethodName) ({ cls := "Overwalks", name := "rowAt", desc := "(I)LOverwalks$Shelf;" } : Jvm.MethodName)) ∈ GT := agw_p.2.2.2.2.2.2.2.2.2.2.2.2.1 rfl
theorem w_13 : (Jvm.Cond.selects "Overwalks" ({ cls := "Overwalks", name := "listAt", desc := "(I)LOverwalks$Shelf;" } : Jvm.MethodName) ({ cls := "Overwalks", name := "listAt", desc := "(I)LOverwalks$Shelf;" } : Jvm.MethodName)) ∈ GT := agw_p.2.2.2.2.2.2.2.2.2.2.2.2.2.1 rfl
theorem w_14 : (Jvm.Cond.selects "OverwalksModel" ({ cls := "OverwalksModel", name := "isStopped", desc := "(ZZZ)Z" } : Jvm.MethodName) ({ cls := "OverwalksModel", name := "isStopped", desc := "(ZZZ)Z" } : Jvm.MethodName)) ∈ GT := agw_p.2.2.2.2.2.2.2.2.2.2.2.2.2.2.1 rfl
theorem w_15 : (Jvm.Cond.selects "OverwalksModel" ({ cls := "OverwalksModel", name := "no", desc := "()I" } : Jvm.MethodName) ({ cls := "OverwalksModel", name := "no", desc := "()I" } : Jvm.MethodName)) ∈ GT := agw_p.2.2.2.2.2.2.2.2.2.2.2.2.2.2.2.1 rfl
theorem w_16 : (Jvm.Cond.selects "OverwalksModel" ({ cls := "OverwalksModel", name := "come", desc := "(II)Z" } : Jvm.MethodName) ({ cls := "OverwalksModel", name := "come", desc := "(II)Z" } : Jvm.MethodName)) ∈ GT := agw_p.2.2.2.2.2.2.2.2.2.2.2.2.2.2.2.2.1 rfl
theorem w_17 : (Jvm.Cond.selects "OverwalksModel" ({ cls := "OverwalksModel", name := "count", desc := "(II)I" } : Jvm.MethodName) ({ cls := "OverwalksModel", name := "count", desc := "(II)I" } : Jvm.MethodName)) ∈ GT := agw_p.2.2.2.2.2.2.2.2.2.2.2.2.2.2.2.2.2.1 rfl
theorem w_18 : (Jvm.Cond.selects "OverwalksModel" ({ cls := "OverwalksModel", name := "comeAt", desc := "(III)V" } : Jvm.MethodName) ({ cls := "OverwalksModel", name := "comeAt", desc := "(III)V" } : Jvm.MethodName)) ∈ GT := agw_p.2.2.2.2.2.2.2.2.2.2.2.2.2.2.2.2.2.2.1 rfl
theorem w_19 : (Jvm.Cond.selects "OverwalksModel" ({ cls := "OverwalksModel", name := "comeAll", desc := "(I[II)I" } : Jvm.MethodName) ({ cls := "OverwalksModel", name := "comeAll", desc := "(I[II)I" } : Jvm.MethodName)) ∈ GT := agw_p.2.2.2.2.2.2.2.2.2.2.2.2.2.2.2.2.2.2.2.1 rfl
theorem w_20 : (Jvm.Cond.selects "OverwalksModel" ({ cls := "OverwalksModel", name := "isStopped", desc := "(ZZ)Z" } : Jvm.MethodName) ({ cls := "OverwalksModel", name := "isStopped", desc := "(ZZ)Z" } : Jvm.MethodName)) ∈ GT := agw_p.2.2.2.2.2.2.2.2.2.2.2.2.2.2.2.2.2.2.2.2.1 rfl
theorem w_21 : (Jvm.Cond.selects "OverwalksModel" ({ cls := "OverwalksModel", name := "firstPlace", desc := "(II)I" } : Jvm.MethodName) ({ cls := "OverwalksModel", name := "firstPlace", desc := "(II)I" } : Jvm.MethodName)) ∈ GT := agw_p.2.2.2.2.2.2.2.2.2.2.2.2.2.2.2.2.2.2.2.2.2.1 rfl
theorem w_22 : (Jvm.Cond.selects "OverwalksModel" ({ cls := "OverwalksModel", name := "leave", desc := "(II)V" } : Jvm.MethodName) ({ cls := "OverwalksModel", name := "leave", desc := "(II)V" } : Jvm.MethodName)) ∈ GT := agw_p.2.2.2.2.2.2.2.2.2.2.2.2.2.2.2.2.2.2.2.2.2.2.1 rfl
theorem w_23 : (Jvm.Cond.selects "OverwalksModel" ({ cls := "OverwalksModel", name := "goAt", desc := "(II)V" } : Jvm.MethodName) ({ cls := "OverwalksModel", name := "goAt", desc := "(II)V" } : Jvm.MethodName)) ∈ GT := agw_p.2.2.2.2.2.2.2.2.2.2.2.2.2.2.2.2.2.2.2.2.2.2.2.1 rfl
theorem w_24 : (Jvm.Cond.selects "OverwalksModel" ({ cls := "OverwalksModel", name := "isStopped", desc := "(Z)Z" } : Jvm.MethodName) ({ cls := "OverwalksModel", name := "isStopped", desc := "(Z)Z" } : Jvm.MethodName)) ∈ GT := agw_p.2.2.2.2.2.2.2.2.2.2.2.2.2.2.2.2.2.2.2.2.2.2.2.2.1 rfl
theorem w_25 : (Jvm.Cond.selects "OverwalksModel" ({ cls := "OverwalksModel", name := "empty", desc := "(I)V" } : Jvm.MethodName) ({ cls := "OverwalksModel", name := "empty", desc := "(I)V" } : Jvm.MethodName)) ∈ GT := agw_p.2.2.2.2.2.2.2.2.2.2.2.2.2.2.2.2.2.2.2.2.2.2.2.2.2.1 rfl
theorem w_26 : (Jvm.Cond.selects "OverwalksModel" ({ cls := "OverwalksModel", name := "hasNothing", desc := "(I)Z" } : Jvm.MethodName) ({ cls := "OverwalksModel", name := "hasNothing", desc := "(I)Z" } : Jvm.MethodName)) ∈ GT := agw_p.2.2.2.2.2.2.2.2.2.2.2.2.2.2.2.2.2.2.2.2.2.2.2.2.2.2.1 rfl
theorem w_27 : (Jvm.Cond.selects "OverwalksModel" ({ cls := "OverwalksModel", name := "picture", desc := "(II)[I" } : Jvm.MethodName) ({ cls := "OverwalksModel", name := "picture", desc := "(II)[I" } : Jvm.MethodName)) ∈ GT := agw_p.2.2.2.2.2.2.2.2.2.2.2.2.2.2.2.2.2.2.2.2.2.2.2.2.2.2.2.1 rfl
theorem w_28 : (Jvm.Cond.selects "OverwalksModel" ({ cls := "OverwalksModel", name := "isNoPlace", desc := "(II)Z" } : Jvm.MethodName) ({ cls := "OverwalksModel", name := "isNoPlace", desc := "(II)Z" } : Jvm.MethodName)) ∈ GT := agw_p.2.2.2.2.2.2.2.2.2.2.2.2.2.2.2.2.2.2.2.2.2.2.2.2.2.2.2.2.1 rfl
theorem w_29 : (Jvm.Cond.selects "OverwalksModel" ({ cls := "OverwalksModel", name := "isUnmade", desc := "(I)Z" } : Jvm.MethodName) ({ cls := "OverwalksModel", name := "isUnmade", desc := "(I)Z" } : Jvm.MethodName)) ∈ GT := agw_p.2.2.2.2.2.2.2.2.2.2.2.2.2.2.2.2.2.2.2.2.2.2.2.2.2.2.2.2.2.1 rfl
theorem w_30 : (Jvm.Cond.selects "OverwalksModel" ({ cls := "OverwalksModel", name := "isStale", desc := "(I)Z" } : Jvm.MethodName) ({ cls := "OverwalksModel", name := "isStale", desc := "(I)Z" } : Jvm.MethodName)) ∈ GT := agw_p.2.2.2.2.2.2.2.2.2.2.2.2.2.2.2.2.2.2.2.2.2.2.2.2.2.2.2.2.2.2.1 rfl
theorem w_31 : (Jvm.Cond.selects "OverwalksModel" ({ cls := "OverwalksModel", name := "hasMore", desc := "(I)Z" } : Jvm.MethodName) ({ cls := "OverwalksModel", name := "hasMore", desc := "(I)Z" } : Jvm.MethodName)) ∈ GT := agw_p.2.2.2.2.2.2.2.2.2.2.2.2.2.2.2.2.2.2.2.2.2.2.2.2.2.2.2.2.2.2.2.1 rfl
theorem w_32 : (Jvm.Cond.selects "OverwalksModel" ({ cls := "OverwalksModel", name := "give", desc := "(I)I" } : Jvm.MethodName) ({ cls := "OverwalksModel", name := "give", desc := "(I)I" } : Jvm.MethodName)) ∈ GT := agw_p.2.2.2.2.2.2.2.2.2.2.2.2.2.2.2.2.2.2.2.2.2.2.2.2.2.2.2.2.2.2.2.2.1 rfl
theorem w_33 : (Jvm.Cond.selects "OverwalksModel" ({ cls := "OverwalksModel", name := "noText", desc := "()Ljava/lang/String;" } : Jvm.MethodName) ({ cls := "OverwalksModel", name := "noText", desc := "()Ljava/lang/String;" } : Jvm.MethodName)) ∈ GT := agw_p.2.2.2.2.2.2.2.2.2.2.2.2.2.2.2.2.2.2.2.2.2.2.2.2.2.2.2.2.2.2.2.2.2.1 rfl
theorem w_34 : (Jvm.Cond.selects "OverwalksModel" ({ cls := "OverwalksModel", name := "left", desc := "(I)[I" } : Jvm.MethodName) ({ cls := "OverwalksModel", name := "left", desc := "(I)[I" } : Jvm.MethodName)) ∈ GT := agw_p.2.2.2.2.2.2.2.2.2.2.2.2.2.2.2.2.2.2.2.2.2.2.2.2.2.2.2.2.2.2.2.2.2.2.1 rfl
theorem w_35 : (Jvm.Cond.selects "OverwalksModel" ({ cls := "OverwalksModel", name := "made", desc := "(I[I)I" } : Jvm.MethodName) ({ cls := "OverwalksModel", name := "made", desc := "(I[I)I" } : Jvm.MethodName)) ∈ GT := agw_p.2.2.2.2.2.2.2.2.2.2.2.2.2.2.2.2.2.2.2.2.2.2.2.2.2.2.2.2.2.2.2.2.2.2.2.1 rfl
theorem w_36 : (Jvm.Cond.selects "OverwalksModel" ({ cls := "OverwalksModel", name := "told", desc := "(II)I" } : Jvm.MethodName) ({ cls := "OverwalksModel", name := "told", desc := "(II)I" } : Jvm.MethodName)) ∈ GT := agw_p.2.2.2.2.2.2.2.2.2.2.2.2.2.2.2.2.2.2.2.2.2.2.2.2.2.2.2.2.2.2.2.2.2.2.2.2.1 rfl
theorem w_37 : (Jvm.Cond.selects "OverwalksModel" ({ cls := "OverwalksModel", name := "houseTold", desc := "(I)I" } : Jvm.MethodName) ({ cls := "OverwalksModel", name := "houseTold", desc := "(I)I" } : Jvm.MethodName)) ∈ GT := agw_p.2.2.2.2.2.2.2.2.2.2.2.2.2.2.2.2.2.2.2.2.2.2.2.2.2.2.2.2.2.2.2.2.2.2.2.2.2.1 rfl
noncomputable def w_38 := gtw (amm_0.1) rfl
noncomputable def w_39 := gtw (amm_0.2.1) rfl
noncomputable def w_40 := gtw (amm_0.2.2.1) rfl
noncomputable def w_41 := gtw (amm_0.2.2.2.1) rfl
noncomputable def w_42 := gtw (amm_0.2.2.2.2.1) rfl
noncomputable def w_43 := gtw (amm_0.2.2.2.2.2.1) rfl
noncomputable def w_44 := gtw (amm_0_6.1) rfl
noncomputable def w_45 := gtw (amm_0_6.2.1) rfl
noncomputable def w_46 := gtw (amm_0_6.2.2.1) rfl
noncomputable def w_47 := gtw (amm_0_6.2.2.2.1) rfl
noncomputable def w_48 := gtw (amm_0_6.2.2.2.2.1) rfl
noncomputable def w_49 := gtw (amm_0_6.2.2.2.2.2.1) rfl
noncomputable def w_50 := gtw (amm_0_12.1) rfl
noncomputable def w_51 := gtw (amm_0_12.2.1) rfl
noncomputable def w_52 := gtw (amm_0_12.2.2.1) rfl
noncomputable def w_53 := gtw (amm_0_12.2.2.2.1) rfl
noncomputable def w_54 := gtw (amm_0_12.2.2.2.2.1) rfl
noncomputable def w_55 := gtw (amm_0_12.2.2.2.2.2.1) rfl
noncomputable def w_56 := gtw (amm_0_18.1) rfl
noncomputable def w_57 := gtw (amm_0_18.2.1) rfl
noncomputable def w_58 := gtw (amm_0_18.2.2.1) rfl
noncomputable def w_59 := gtw (amm_0_18.2.2.2.1) rfl
noncomputable def w_60 := gtw (amm_0_18.2.2.2.2.1) rfl
noncomputable def w_61 := gtw (amm_0_18.2.2.2.2.2.1) rfl
noncomputable def w_62 := gtw (amm_0_24.1) rfl
noncomputable def w_63 := gtw (amm_0_24.2.1) rfl
noncomputable def w_64 := gtw (amm_0_24.2.2.1) rfl
noncomputable def w_65 := gtw (amm_0_24.2.2.2.1) rfl
noncomputable def w_66 := gtw (amm_0_24.2.2.2.2.1) rfl
noncomputable def w_67 := gtw (amm_0_24.2.2.2.2.2.1) rfl
noncomputable def w_68 := gtw (amm_0_30.1) rfl
noncomputable def w_69 := gtw (amm_0_30.2.1) rfl
noncomputable def w_70 := gtw (amm_0_30.2.2.1) rfl
noncomputable def w_71 := gtw (amm_0_30.2.2.2.1) rfl
noncomputable def w_73 := gtw (amm_0_30.2.2.2.2.2.1) rfl
noncomputable def w_74 := gtw (amm_0_36.1) rfl
noncomputable def w_76 := gtw (amm_0_36.2.2.1) rfl
noncomputable def w_77 := gtw (amm_0_36.2.2.2.1) rfl
noncomputable def w_78 := gtw (amm_0_36.2.2.2.2.1) rfl
noncomputable def w_79 := gtw (amm_0_36.2.2.2.2.2.1) rfl
noncomputable def w_80 := gtw (amm_0_42.1) rfl
noncomputable def w_81 := gtw (amm_0_42.2.1) rfl
noncomputable def w_82 := gtw (amm_0_42.2.2.1) rfl
noncomputable def w_83 := gtw (amm_0_42.2.2.2.1) rfl
noncomputable def w_84 := gtw (amm_0_42.2.2.2.2.1) rfl
noncomputable def w_85 := gtw (amm_0_42.2.2.2.2.2.1) rfl
noncomputable def w_86 := gtw (amm_0_48.1) rfl
noncomputable def w_87 := gtw (amm_0_48.2.1) rfl
noncomputable def w_88 := gtw (amm_0_48.2.2.1) rfl
noncomputable def w_89 := gtw (amm_0_48.2.2.2.1) rfl
noncomputable def w_90 := gtw (amm_0_48.2.2.2.2.1) rfl
noncomputable def w_92 := gtw (amm_0_54.1) rfl
noncomputable def w_94 := gtw (amm_0_54.2.2.1) rfl
noncomputable def w_96 := gtw (amm_0_54.2.2.2.2.1) rfl
noncomputable def w_98 := gtw (amm_0_60.1) rfl
noncomputable def w_101 := gtw (amm_0_60.2.2.2.1) rfl
noncomputable def w_102 := gtw (amm_0_60.2.2.2.2.1) rfl
noncomputable def w_104 := gtw (amm_0_66.1) rfl
noncomputable def w_106 := gtw (amm_0_66.2.2.1) rfl
noncomputable def w_108 := gtw (amm_0_66.2.2.2.2.1) rfl
noncomputable def w_110 := gtw (amm_0_72.1) rfl
noncomputable def w_112 := gtw (amm_0_72.2.2.1) rfl
noncomputable def w_113 := gtw (amm_0_72.2.2.2.1) rfl
noncomputable def w_114 := gtw (amm_0_72.2.2.2.2.1) rfl
noncomputable def w_115 := gtw (amm_0_72.2.2.2.2.2.1) rfl
noncomputable def w_116 := gtw (amm_0_78.1) rfl
noncomputable def w_117 := gtw (amm_0_78.2.1) rfl
noncomputable def w_118 := gtw (amm_0_78.2.2.1) rfl
noncomputable def w_119 := gtw (amm_0_78.2.2.2.1) rfl
noncomputable def w_120 := gtw (amm_0_78.2.2.2.2.1) rfl
noncomputable def w_121 := gtw (amm_0_78.2.2.2.2.2.1) rfl
noncomputable def w_122 := gtw (amm_0_84.1) rfl
noncomputable def w_123 := gtw (amm_0_84.2.1) rfl
noncomputable def w_124 := gtw (amm_0_84.2.2.1) rfl
noncomputable def w_125 := gtw (amm_0_84.2.2.2.1) rfl
noncomputable def w_126 := gtw (amm_0_84.2.2.2.2.1) rfl
noncomputable def w_127 := gtw (amm_0_84.2.2.2.2.2.1) rfl
noncomputable def w_128 := gtw (amm_0_90.1) rfl
noncomputable def w_129 := gtw (amm_0_90.2.1) rfl
noncomputable def w_130 := gtw (amm_0_90.2.2.1) rfl
noncomputable def w_131 := gtw (amm_0_90.2.2.2.1) rfl
noncomputable def w_133 := gtw (amm_0_90.2.2.2.2.2.1) rfl
noncomputable def w_135 := gtw (amm_0_96.2.1) rfl
noncomputable def w_137 := gtw (amm_0_96.2.2.2.1) rfl
noncomputable def w_139 := gtw (amm_0_96.2.2.2.2.2.1) rfl
noncomputable def w_141 := gtw (amm_0_102.2.1) rfl
noncomputable def w_143 := gtw (amm_0_102.2.2.2.1) rfl
noncomputable def w_145 := gtw (amm_0_102.2.2.2.2.2.1) rfl
noncomputable def w_147 := gtw (amm_0_108.2.1) rfl
noncomputable def w_150 := gtw (amm_0_108.2.2.2.2.1) rfl
noncomputable def w_151 := gtw (amm_0_108.2.2.2.2.2.1) rfl
noncomputable def w_152 := gtw (amm_0_114.1) rfl
noncomputable def w_153 := gtw (amm_0_114.2.1) rfl
noncomputable def w_154 := gtw (amm_0_114.2.2.1) rfl
noncomputable def w_155 := gtw (amm_0_114.2.2.2.1) rfl
noncomputable def w_156 := gtw (amm_0_114.2.2.2.2.1) rfl
noncomputable def w_157 := gtw (amm_0_114.2.2.2.2.2.1) rfl
noncomputable def w_159 := gtw (amm_0_120.2.1) rfl
noncomputable def w_161 := gtw (amm_0_120.2.2.2.1) rfl
noncomputable def w_163 := gtw (amm_0_120.2.2.2.2.2.1) rfl
noncomputable def w_165 := gtw (amm_0_126.2.1) rfl
noncomputable def w_167 := gtw (amm_0_126.2.2.2.1) rfl
noncomputable def w_169 := gtw (amm_0_126.2.2.2.2.2.1) rfl
noncomputable def w_172 := gtw (amm_0_132.2.2.1) rfl
noncomputable def w_173 := gtw (amm_0_132.2.2.2.1) rfl
noncomputable def w_174 := gtw (amm_0_132.2.2.2.2.1) rfl
noncomputable def w_175 := gtw (amm_0_132.2.2.2.2.2.1) rfl
noncomputable def w_176 := gtw (amm_0_138.1) rfl
noncomputable def w_177 := gtw (amm_0_138.2.1) rfl
noncomputable def w_178 := gtw (amm_0_138.2.2.1) rfl
noncomputable def w_179 := gtw (amm_0_138.2.2.2.1) rfl
noncomputable def w_180 := gtw (amm_0_138.2.2.2.2.1) rfl
noncomputable def w_182 := gtw (amm_0_144.1) rfl
noncomputable def w_183 := gtw (amm_0_144.2.1) rfl
noncomputable def w_184 := gtw (amm_0_144.2.2.1) rfl
noncomputable def w_185 := gtw (amm_0_144.2.2.2.1) rfl
noncomputable def w_186 := gtw (amm_0_144.2.2.2.2.1) rfl
noncomputable def w_187 := gtw (amm_0_144.2.2.2.2.2.1) rfl
noncomputable def w_188 := gtw (amm_0_150.1) rfl
noncomputable def w_189 := gtw (amm_0_150.2.1) rfl
noncomputable def w_190 := gtw (amm_0_150.2.2.1) rfl
noncomputable def w_191 := gtw (amm_0_150.2.2.2.1) rfl
noncomputable def w_192 := gtw (amm_0_150.2.2.2.2.1) rfl
noncomputable def w_193 := gtw (amm_0_150.2.2.2.2.2.1) rfl
noncomputable def w_194 := gtw (amm_0_156.1) rfl
noncomputable def w_195 := gtw (amm_0_156.2.1) rfl
noncomputable def w_196 := gtw (amm_0_156.2.2.1) rfl
noncomputable def w_197 := gtw (amm_0_156.2.2.2.1) rfl
noncomputable def w_198 := gtw (amm_0_156.2.2.2.2.1) rfl
noncomputable def w_199 := gtw (amm_0_156.2.2.2.2.2.1) rfl
noncomputable def w_200 := gtw (amm_0_162.1) rfl
noncomputable def w_201 := gtw (amm_0_162.2.1) rfl
noncomputable def w_202 := gtw (amm_0_162.2.2.1) rfl
noncomputable def w_203 := gtw (amm_0_162.2.2.2.1) rfl
noncomputable def w_204 := gtw (amm_0_162.2.2.2.2.1) rfl
noncomputable def w_205 := gtw (amm_0_162.2.2.2.2.2.1) rfl
noncomputable def w_206 := gtw (amm_0_168.1) rfl
noncomputable def w_207 := gtw (amm_0_168.2.1) rfl
noncomputable def w_208 := gtw (amm_0_168.2.2.1) rfl
noncomputable def w_210 := gtw (amm_0_168.2.2.2.2.1) rfl
noncomputable def w_211 := gtw (amm_0_168.2.2.2.2.2.1) rfl
noncomputable def w_212 := gtw (amm_0_174.1) rfl
noncomputable def w_213 := gtw (amm_0_174.2.1) rfl
noncomputable def w_214 := gtw (amm_0_174.2.2.1) rfl
noncomputable def w_215 := gtw (amm_0_174.2.2.2.1) rfl
noncomputable def w_216 := gtw (amm_0_174.2.2.2.2.1) rfl
noncomputable def w_217 := gtw (amm_0_174.2.2.2.2.2.1) rfl
noncomputable def w_218 := gtw (amm_0_180.1) rfl
noncomputable def w_219 := gtw (amm_0_180.2.1) rfl
noncomputable def w_220 := gtw (amm_0_180.2.2.1) rfl
noncomputable def w_221 := gtw (amm_0_180.2.2.2.1) rfl
noncomputable def w_222 := gtw (amm_0_180.2.2.2.2.1) rfl
noncomputable def w_223 := gtw (amm_0_180.2.2.2.2.2.1) rfl
noncomputable def w_224 := gtw (amm_0_186.1) rfl
noncomputable def w_225 := gtw (amm_0_186.2.1) rfl
noncomputable def w_226 := gtw (amm_0_186.2.2.1) rfl
noncomputable def w_227 := gtw (amm_0_186.2.2.2.1) rfl
noncomputable def w_228 := gtw (amm_0_186.2.2.2.2.1) rfl
noncomputable def w_229 := gtw (amm_0_186.2.2.2.2.2.1) rfl
noncomputable def w_230 := gtw (amm_0_192.1) rfl
noncomputable def w_231 := gtw (amm_0_192.2.1) rfl
noncomputable def w_233 := gtw (amm_0_192.2.2.2.1) rfl
noncomputable def w_234 := gtw (amm_0_192.2.2.2.2.1) rfl
noncomputable def w_235 := gtw (amm_0_192.2.2.2.2.2.1) rfl
noncomputable def w_236 := gtw (amm_0_198.1) rfl
noncomputable def w_237 := gtw (amm_0_198.2.1) rfl
noncomputable def w_238 := gtw (amm_0_198.2.2.1) rfl
noncomputable def w_239 := gtw (amm_0_198.2.2.2.1) rfl
noncomputable def w_240 := gtw (amm_0_198.2.2.2.2.1) rfl
noncomputable def w_241 := gtw (amm_0_198.2.2.2.2.2.1) rfl
noncomputable def w_242 := gtw (amm_0_204.1) rfl
noncomputable def w_243 := gtw (amm_0_204.2.1) rfl
noncomputable def w_244 := gtw (amm_0_204.2.2.1) rfl
noncomputable def w_245 := gtw (amm_0_204.2.2.2.1) rfl
noncomputable def w_246 := gtw (amm_0_204.2.2.2.2.1) rfl
noncomputable def w_247 := gtw (amm_0_204.2.2.2.2.2.1) rfl
noncomputable def w_248 := gtw (amm_0_210.1) rfl
noncomputable def w_249 := gtw (amm_0_210.2.1) rfl
noncomputable def w_250 := gtw (amm_0_210.2.2.1) rfl
noncomputable def w_251 := gtw (amm_0_210.2.2.2.1) rfl
noncomputable def w_252 := gtw (amm_0_210.2.2.2.2.1) rfl
noncomputable def w_253 := gtw (amm_0_210.2.2.2.2.2.1) rfl
noncomputable def w_254 := gtw (amm_0_216.1) rfl
noncomputable def w_255 := gtw (amm_0_216.2.1) rfl
noncomputable def w_256 := gtw (amm_0_216.2.2.1) rfl
noncomputable def w_257 := gtw (amm_0_216.2.2.2.1) rfl
noncomputable def w_258 := gtw (amm_0_216.2.2.2.2.1) rfl
noncomputable def w_259 := gtw (amm_0_216.2.2.2.2.2.1) rfl
noncomputable def w_260 := gtw (amm_0_222.1) rfl
noncomputable def w_261 := gtw (amm_0_222.2.1) rfl
noncomputable def w_263 := gtw (amm_0_222.2.2.2.1) rfl
noncomputable def w_264 := gtw (amm_0_222.2.2.2.2.1) rfl
noncomputable def w_265 := gtw (amm_0_222.2.2.2.2.2.1) rfl
noncomputable def w_267 := gtw (amm_0_228.2.1) rfl
noncomputable def w_268 := gtw (amm_0_228.2.2.1) rfl
noncomputable def w_269 := gtw (amm_0_228.2.2.2.1) rfl
noncomputable def w_270 := gtw (amm_0_228.2.2.2.2.1) rfl
noncomputable def w_271 := gtw (amm_0_228.2.2.2.2.2.1) rfl
noncomputable def w_272 := gtw (amm_0_234.1) rfl
noncomputable def w_273 := gtw (amm_0_234.2.1) rfl
noncomputable def w_275 := gtw (amm_0_234.2.2.2.1) rfl
noncomputable def w_276 := gtw (amm_0_234.2.2.2.2.1) rfl
noncomputable def w_277 := gtw (amm_0_234.2.2.2.2.2.1) rfl
noncomputable def w_278 := gtw (amm_1.1) rfl
noncomputable def w_279 := gtw (amm_1.2.1) rfl
noncomputable def w_280 := gtw (amm_1.2.2.1) rfl
noncomputable def w_282 := gtw (amm_1.2.2.2.2.1) rfl
noncomputable def w_283 := gtw (amm_1.2.2.2.2.2.1) rfl
noncomputable def w_284 := gtw (amm_1_6.1) rfl
noncomputable def w_285 := gtw (amm_1_6.2.1) rfl
noncomputable def w_286 := gtw (amm_1_6.2.2.1) rfl
noncomputable def w_294 := gtw (amm_1_12.2.2.2.2.1) rfl
noncomputable def w_295 := gtw (amm_1_12.2.2.2.2.2.1) rfl
noncomputable def w_296 := gtw (amm_1_18.1) rfl
noncomputable def w_297 := gtw (amm_1_18.2.1) rfl
noncomputable def w_298 := gtw (amm_1_18.2.2.1) rfl
noncomputable def w_299 := gtw (amm_1_18.2.2.2.1) rfl
noncomputable def w_300 := gtw (amm_1_18.2.2.2.2.1) rfl
noncomputable def w_301 := gtw (amm_1_18.2.2.2.2.2.1) rfl
noncomputable def w_302 := gtw (amm_1_24.1) rfl
noncomputable def w_303 := gtw (amm_1_24.2.1) rfl
noncomputable def w_304 := gtw (amm_1_24.2.2.1) rfl
noncomputable def w_305 := gtw (amm_1_24.2.2.2.1) rfl
noncomputable def w_306 := gtw (amm_1_24.2.2.2.2.1) rfl
noncomputable def w_307 := gtw (amm_1_24.2.2.2.2.2.1) rfl
noncomputable def w_308 := gtw (amm_1_30.1) rfl
noncomputable def w_309 := gtw (amm_1_30.2.1) rfl
noncomputable def w_310 := gtw (amm_1_30.2.2.1) rfl
noncomputable def w_311 := gtw (amm_1_30.2.2.2.1) rfl
noncomputable def w_313 := gtw (amm_1_30.2.2.2.2.2.1) rfl
noncomputable def w_315 := gtw (amm_1_36.2.1) rfl
noncomputable def w_316 := gtw (amm_1_36.2.2.1) rfl
noncomputable def w_318 := gtw (amm_1_36.2.2.2.2.1) rfl
noncomputable def w_319 := gtw (amm_1_36.2.2.2.2.2.1) rfl
noncomputable def w_320 := gtw (amm_1_42.1) rfl
noncomputable def w_321 := gtw (amm_1_42.2.1) rfl
noncomputable def w_323 := gtw (amm_1_42.2.2.2.1) rfl
noncomputable def w_324 := gtw (amm_1_42.2.2.2.2.1) rfl
noncomputable def w_325 := gtw (amm_1_42.2.2.2.2.2.1) rfl
noncomputable def w_327 := gtw (amm_1_48.2.1) rfl
noncomputable def w_328 := gtw (amm_1_48.2.2.1) rfl
noncomputable def w_329 := gtw (amm_1_48.2.2.2.1) rfl
noncomputable def w_330 := gtw (amm_1_48.2.2.2.2.1) rfl
noncomputable def w_331 := gtw (amm_1_48.2.2.2.2.2.1) rfl
noncomputable def w_332 := gtw (amm_1_54.1) rfl
noncomputable def w_333 := gtw (amm_1_54.2.1) rfl
noncomputable def w_334 := gtw (amm_1_54.2.2.1) rfl
noncomputable def w_335 := gtw (amm_1_54.2.2.2.1) rfl
noncomputable def w_336 := gtw (amm_1_54.2.2.2.2.1) rfl
noncomputable def w_337 := gtw (amm_1_54.2.2.2.2.2.1) rfl
noncomputable def w_338 := gtw (amm_1_60.1) rfl
noncomputable def w_340 := gtw (amm_1_60.2.2.1) rfl
noncomputable def w_341 := gtw (amm_1_60.2.2.2.1) rfl
noncomputable def w_342 := gtw (amm_1_60.2.2.2.2.1) rfl
noncomputable def w_343 := gtw (amm_1_60.2.2.2.2.2.1) rfl
noncomputable def w_352 := gtw (amm_1_72.2.2.1) rfl
noncomputable def w_353 := gtw (amm_1_72.2.2.2.1) rfl
noncomputable def w_354 := gtw (amm_1_72.2.2.2.2.1) rfl
noncomputable def w_355 := gtw (amm_1_72.2.2.2.2.2.1) rfl
noncomputable def w_356 := gtw (amm_1_78.1) rfl
noncomputable def w_357 := gtw (amm_1_78.2.1) rfl
noncomputable def w_359 := gtw (amm_1_78.2.2.2.1) rfl
noncomputable def w_360 := gtw (amm_1_78.2.2.2.2.1) rfl
noncomputable def w_361 := gtw (amm_1_78.2.2.2.2.2.1) rfl
noncomputable def w_362 := gtw (amm_1_84.1) rfl
noncomputable def w_364 := gtw (amm_1_84.2.2.1) rfl
noncomputable def w_365 := gtw (amm_1_84.2.2.2.1) rfl
noncomputable def w_366 := gtw (amm_1_84.2.2.2.2.1) rfl
noncomputable def w_367 := gtw (amm_1_84.2.2.2.2.2.1) rfl
noncomputable def w_368 := gtw (amm_1_90.1) rfl
noncomputable def w_369 := gtw (amm_1_90.2.1) rfl
noncomputable def w_371 := gtw (amm_1_90.2.2.2.1) rfl
noncomputable def w_372 := gtw (amm_1_90.2.2.2.2.1) rfl
noncomputable def w_373 := gtw (amm_1_90.2.2.2.2.2.1) rfl
noncomputable def w_374 := gtw (amm_1_96.1) rfl
noncomputable def w_378 := gtw (amm_1_96.2.2.2.2.1) rfl
noncomputable def w_379 := gtw (amm_1_96.2.2.2.2.2.1) rfl
noncomputable def w_380 := gtw (amm_1_102.1) rfl
noncomputable def w_382 := gtw (amm_1_102.2.2.1) rfl
noncomputable def w_383 := gtw (amm_1_102.2.2.2.1) rfl
noncomputable def w_384 := gtw (amm_1_102.2.2.2.2.1) rfl
noncomputable def w_387 := gtw (amm_1_108.2.1) rfl
noncomputable def w_389 := gtw (amm_1_108.2.2.2.1) rfl
noncomputable def w_392 := gtw (amm_1_114.1) rfl
noncomputable def w_393 := gtw (amm_1_114.2.1) rfl
noncomputable def w_394 := gtw (amm_1_114.2.2.1) rfl
noncomputable def w_395 := gtw (amm_1_114.2.2.2.1) rfl
noncomputable def w_396 := gtw (amm_1_114.2.2.2.2.1) rfl
noncomputable def w_397 := gtw (amm_1_114.2.2.2.2.2.1) rfl
noncomputable def w_398 := gtw (amm_1_120.1) rfl
noncomputable def w_399 := gtw (amm_1_120.2.1) rfl
noncomputable def w_400 := gtw (amm_1_120.2.2.1) rfl
noncomputable def w_401 := gtw (amm_1_120.2.2.2.1) rfl
noncomputable def w_402 := gtw (amm_1_120.2.2.2.2.1) rfl
noncomputable def w_404 := gtw (amm_1_126.1) rfl
noncomputable def w_405 := gtw (amm_1_126.2.1) rfl
noncomputable def w_407 := gtw (amm_1_126.2.2.2.1) rfl
noncomputable def w_408 := gtw (amm_1_126.2.2.2.2.1) rfl
noncomputable def w_409 := gtw (amm_1_126.2.2.2.2.2.1) rfl
noncomputable def w_411 := gtw (amm_1_132.2.1) rfl
noncomputable def w_412 := gtw (amm_1_132.2.2.1) rfl
noncomputable def w_413 := gtw (amm_1_132.2.2.2.1) rfl
noncomputable def w_414 := gtw (amm_1_132.2.2.2.2.1) rfl
noncomputable def w_415 := gtw (amm_1_132.2.2.2.2.2.1) rfl
noncomputable def w_417 := gtw (amm_1_138.2.1) rfl
noncomputable def w_418 := gtw (amm_1_138.2.2.1) rfl
noncomputable def w_419 := gtw (amm_1_138.2.2.2.1) rfl
noncomputable def w_420 := gtw (amm_1_138.2.2.2.2.1) rfl
noncomputable def w_421 := gtw (amm_1_138.2.2.2.2.2.1) rfl
noncomputable def w_422 := gtw (amm_1_144.1) rfl
noncomputable def w_424 := gtw (amm_1_144.2.2.1) rfl
noncomputable def w_425 := gtw (amm_1_144.2.2.2.1) rfl
noncomputable def w_426 := gtw (amm_1_144.2.2.2.2.1) rfl
noncomputable def w_427 := gtw (amm_1_144.2.2.2.2.2.1) rfl
noncomputable def w_430 := gtw (amm_1_150.2.2.1) rfl
noncomputable def w_431 := gtw (amm_1_150.2.2.2.1) rfl
noncomputable def w_432 := gtw (amm_1_150.2.2.2.2.1) rfl
noncomputable def w_433 := gtw (amm_1_150.2.2.2.2.2.1) rfl
noncomputable def w_434 := gtw (amm_1_156.1) rfl
noncomputable def w_435 := gtw (amm_1_156.2.1) rfl
noncomputable def w_436 := gtw (amm_1_156.2.2.1) rfl
noncomputable def w_437 := gtw (amm_1_156.2.2.2.1) rfl
noncomputable def w_438 := gtw (amm_1_156.2.2.2.2.1) rfl
noncomputable def w_439 := gtw (amm_1_156.2.2.2.2.2.1) rfl
noncomputable def w_441 := gtw (amm_1_162.2.1) rfl
noncomputable def w_442 := gtw (amm_1_162.2.2.1) rfl
noncomputable def w_443 := gtw (amm_1_162.2.2.2.1) rfl
noncomputable def w_444 := gtw (amm_1_162.2.2.2.2.1) rfl
noncomputable def w_445 := gtw (amm_1_162.2.2.2.2.2.1) rfl
noncomputable def w_446 := gtw (amm_1_168.1) rfl
noncomputable def w_447 := gtw (amm_1_168.2.1) rfl
noncomputable def w_448 := gtw (amm_1_168.2.2.1) rfl
noncomputable def w_449 := gtw (amm_1_168.2.2.2.1) rfl
noncomputable def w_450 := gtw (amm_1_168.2.2.2.2.1) rfl
noncomputable def w_451 := gtw (amm_1_168.2.2.2.2.2.1) rfl
noncomputable def w_452 := gtw (amm_1_174.1) rfl
noncomputable def w_453 := gtw (amm_1_174.2.1) rfl
noncomputable def w_454 := gtw (amm_1_174.2.2.1) rfl
noncomputable def w_455 := gtw (amm_1_174.2.2.2.1) rfl
noncomputable def w_456 := gtw (amm_1_174.2.2.2.2.1) rfl
noncomputable def w_457 := gtw (amm_1_174.2.2.2.2.2.1) rfl
noncomputable def w_458 := gtw (amm_1_180.1) rfl
noncomputable def w_459 := gtw (amm_1_180.2.1) rfl
noncomputable def w_460 := gtw (amm_1_180.2.2.1) rfl
noncomputable def w_461 := gtw (amm_1_180.2.2.2.1) rfl
noncomputable def w_462 := gtw (amm_1_180.2.2.2.2.1) rfl
noncomputable def w_463 := gtw (amm_1_180.2.2.2.2.2.1) rfl
noncomputable def w_464 := gtw (amm_1_186.1) rfl
noncomputable def w_465 := gtw (amm_1_186.2.1) rfl
noncomputable def w_466 := gtw (amm_1_186.2.2.1) rfl
noncomputable def w_468 := gtw (amm_1_186.2.2.2.2.1) rfl
noncomputable def w_469 := gtw (amm_1_186.2.2.2.2.2.1) rfl
noncomputable def w_470 := gtw (amm_1_192.1) rfl
noncomputable def w_471 := gtw (amm_1_192.2.1) rfl
noncomputable def w_472 := gtw (amm_1_192.2.2.1) rfl
noncomputable def w_473 := gtw (amm_1_192.2.2.2.1) rfl
noncomputable def w_474 := gtw (amm_1_192.2.2.2.2.1) rfl
noncomputable def w_475 := gtw (amm_1_192.2.2.2.2.2.1) rfl
noncomputable def w_476 := gtw (amm_1_198.1) rfl
noncomputable def w_477 := gtw (amm_1_198.2.1) rfl
noncomputable def w_478 := gtw (amm_1_198.2.2.1) rfl
noncomputable def w_479 := gtw (amm_1_198.2.2.2.1) rfl
noncomputable def w_480 := gtw (amm_1_198.2.2.2.2.1) rfl
noncomputable def w_481 := gtw (amm_1_198.2.2.2.2.2.1) rfl
noncomputable def w_482 := gtw (amm_1_204.1) rfl
noncomputable def w_484 := gtw (amm_1_204.2.2.1) rfl
noncomputable def w_485 := gtw (amm_1_204.2.2.2.1) rfl
noncomputable def w_486 := gtw (amm_1_204.2.2.2.2.1) rfl
noncomputable def w_487 := gtw (amm_1_204.2.2.2.2.2.1) rfl
noncomputable def w_488 := gtw (amm_1_210.1) rfl
noncomputable def w_489 := gtw (amm_1_210.2.1) rfl
noncomputable def w_490 := gtw (amm_1_210.2.2.1) rfl
noncomputable def w_491 := gtw (amm_1_210.2.2.2.1) rfl
noncomputable def w_492 := gtw (amm_1_210.2.2.2.2.1) rfl
noncomputable def w_493 := gtw (amm_1_210.2.2.2.2.2.1) rfl
noncomputable def w_494 := gtw (amm_1_216.1) rfl
noncomputable def w_495 := gtw (amm_1_216.2.1) rfl
noncomputable def w_496 := gtw (amm_1_216.2.2.1) rfl
noncomputable def w_497 := gtw (amm_1_216.2.2.2.1) rfl
noncomputable def w_498 := gtw (amm_1_216.2.2.2.2.1) rfl
noncomputable def w_499 := gtw (amm_1_216.2.2.2.2.2.1) rfl
noncomputable def w_500 := gtw (amm_1_222.1) rfl
noncomputable def w_501 := gtw (amm_1_222.2.1) rfl
noncomputable def w_502 := gtw (amm_1_222.2.2.1) rfl
noncomputable def w_503 := gtw (amm_1_222.2.2.2.1) rfl
noncomputable def w_504 := gtw (amm_1_222.2.2.2.2.1) rfl
noncomputable def w_505 := gtw (amm_1_222.2.2.2.2.2.1) rfl
noncomputable def w_506 := gtw (amm_1_228.1) rfl
noncomputable def w_507 := gtw (amm_1_228.2.1) rfl
noncomputable def w_508 := gtw (amm_1_228.2.2.1) rfl
noncomputable def w_509 := gtw (amm_1_228.2.2.2.1) rfl
noncomputable def w_510 := gtw (amm_1_228.2.2.2.2.1) rfl
noncomputable def w_512 := gtw (amm_1_234.1) rfl
noncomputable def w_513 := gtw (amm_1_234.2.1) rfl
noncomputable def w_514 := gtw (amm_1_234.2.2.1) rfl
noncomputable def w_515 := gtw (amm_1_234.2.2.2.1) rfl
noncomputable def w_516 := gtw (amm_1_234.2.2.2.2.1) rfl
noncomputable def w_517 := gtw (amm_1_234.2.2.2.2.2.1) rfl
noncomputable def w_518 := gtw (amm_2.1) rfl
noncomputable def w_519 := gtw (amm_2.2.1) rfl
noncomputable def w_520 := gtw (amm_2.2.2.1) rfl
noncomputable def w_521 := gtw (amm_2.2.2.2.1) rfl
noncomputable def w_522 := gtw (amm_2.2.2.2.2.1) rfl
noncomputable def w_523 := gtw (amm_2.2.2.2.2.2.1) rfl
noncomputable def w_524 := gtw (amm_2_6.1) rfl
noncomputable def w_525 := gtw (amm_2_6.2.1) rfl
noncomputable def w_526 := gtw (amm_2_6.2.2.1) rfl
noncomputable def w_527 := gtw (amm_2_6.2.2.2.1) rfl
noncomputable def w_528 := gtw (amm_2_6.2.2.2.2.1) rfl
noncomputable def w_529 := gtw (amm_2_6.2.2.2.2.2.1) rfl
noncomputable def w_530 := gtw (amm_2_12.1) rfl
noncomputable def w_531 := gtw (amm_2_12.2.1) rfl
noncomputable def w_532 := gtw (amm_2_12.2.2.1) rfl
noncomputable def w_533 := gtw (amm_2_12.2.2.2.1) rfl
noncomputable def w_534 := gtw (amm_2_12.2.2.2.2.1) rfl
noncomputable def w_535 := gtw (amm_2_12.2.2.2.2.2.1) rfl
noncomputable def w_536 := gtw (amm_2_18.1) rfl
noncomputable def w_537 := gtw (amm_2_18.2.1) rfl
noncomputable def w_538 := gtw (amm_2_18.2.2.1) rfl
noncomputable def w_539 := gtw (amm_2_18.2.2.2.1) rfl
noncomputable def w_540 := gtw (amm_2_18.2.2.2.2.1) rfl
noncomputable def w_541 := gtw (amm_2_18.2.2.2.2.2.1) rfl
noncomputable def w_543 := gtw (amm_2_24.2.1) rfl
noncomputable def w_544 := gtw (amm_2_24.2.2.1) rfl
noncomputable def w_546 := gtw (amm_2_24.2.2.2.2.1) rfl
noncomputable def w_547 := gtw (amm_2_24.2.2.2.2.2.1) rfl
noncomputable def w_548 := gtw (amm_2_30.1) rfl
noncomputable def w_550 := gtw (amm_2_30.2.2.1) rfl
noncomputable def w_551 := gtw (amm_2_30.2.2.2.1) rfl
noncomputable def w_552 := gtw (amm_2_30.2.2.2.2.1) rfl
noncomputable def w_553 := gtw (amm_2_30.2.2.2.2.2.1) rfl
noncomputable def w_554 := gtw (amm_2_36.1) rfl
noncomputable def w_555 := gtw (amm_2_36.2.1) rfl
noncomputable def w_556 := gtw (amm_2_36.2.2.1) rfl
noncomputable def w_557 := gtw (amm_2_36.2.2.2.1) rfl
noncomputable def w_558 := gtw (amm_2_36.2.2.2.2.1) rfl
noncomputable def w_559 := gtw (amm_2_36.2.2.2.2.2.1) rfl
noncomputable def w_560 := gtw (amm_2_42.1) rfl
noncomputable def w_561 := gtw (amm_2_42.2.1) rfl
noncomputable def w_562 := gtw (amm_2_42.2.2.1) rfl
noncomputable def w_563 := gtw (amm_2_42.2.2.2.1) rfl
noncomputable def w_564 := gtw (amm_2_42.2.2.2.2.1) rfl
noncomputable def w_565 := gtw (amm_2_42.2.2.2.2.2.1) rfl
noncomputable def w_566 := gtw (amm_2_48.1) rfl
noncomputable def w_567 := gtw (amm_2_48.2.1) rfl
noncomputable def w_568 := gtw (amm_2_48.2.2.1) rfl
noncomputable def w_569 := gtw (amm_2_48.2.2.2.1) rfl
noncomputable def w_570 := gtw (amm_2_48.2.2.2.2.1) rfl
noncomputable def w_571 := gtw (amm_2_48.2.2.2.2.2.1) rfl
noncomputable def w_572 := gtw (amm_2_54.1) rfl
noncomputable def w_573 := gtw (amm_2_54.2.1) rfl
noncomputable def w_574 := gtw (amm_2_54.2.2.1) rfl
noncomputable def w_575 := gtw (amm_2_54.2.2.2.1) rfl
noncomputable def w_576 := gtw (amm_2_54.2.2.2.2.1) rfl
noncomputable def w_577 := gtw (amm_2_54.2.2.2.2.2.1) rfl
noncomputable def w_578 := gtw (amm_2_60.1) rfl
noncomputable def w_579 := gtw (amm_2_60.2.1) rfl
noncomputable def w_580 := gtw (amm_2_60.2.2.1) rfl
noncomputable def w_581 := gtw (amm_2_60.2.2.2.1) rfl
noncomputable def w_582 := gtw (amm_2_60.2.2.2.2.1) rfl
noncomputable def w_584 := gtw (amm_2_66.1) rfl
noncomputable def w_585 := gtw (amm_2_66.2.1) rfl
noncomputable def w_586 := gtw (amm_2_66.2.2.1) rfl
noncomputable def w_587 := gtw (amm_2_66.2.2.2.1) rfl
noncomputable def w_588 := gtw (amm_2_66.2.2.2.2.1) rfl
noncomputable def w_589 := gtw (amm_2_66.2.2.2.2.2.1) rfl
noncomputable def w_590 := gtw (amm_2_72.1) rfl
noncomputable def w_591 := gtw (amm_2_72.2.1) rfl
noncomputable def w_592 := gtw (amm_2_72.2.2.1) rfl
noncomputable def w_593 := gtw (amm_2_72.2.2.2.1) rfl
noncomputable def w_594 := gtw (amm_2_72.2.2.2.2.1) rfl
noncomputable def w_595 := gtw (amm_2_72.2.2.2.2.2.1) rfl
noncomputable def w_596 := gtw (amm_2_78.1) rfl
noncomputable def w_597 := gtw (amm_2_78.2.1) rfl
noncomputable def w_598 := gtw (amm_2_78.2.2.1) rfl
noncomputable def w_599 := gtw (amm_2_78.2.2.2.1) rfl
noncomputable def w_600 := gtw (amm_2_78.2.2.2.2.1) rfl
noncomputable def w_601 := gtw (amm_2_78.2.2.2.2.2.1) rfl
noncomputable def w_602 := gtw (amm_2_84.1) rfl
noncomputable def w_603 := gtw (amm_2_84.2.1) rfl
noncomputable def w_604 := gtw (amm_2_84.2.2.1) rfl
noncomputable def w_605 := gtw (amm_2_84.2.2.2.1) rfl
noncomputable def w_606 := gtw (amm_2_84.2.2.2.2.1) rfl
noncomputable def w_607 := gtw (amm_2_84.2.2.2.2.2.1) rfl
noncomputable def w_608 := gtw (amm_2_90.1) rfl
noncomputable def w_609 := gtw (amm_2_90.2.1) rfl
noncomputable def w_610 := gtw (amm_2_90.2.2.1) rfl
noncomputable def w_611 := gtw (amm_2_90.2.2.2.1) rfl
noncomputable def w_612 := gtw (amm_2_90.2.2.2.2.1) rfl
noncomputable def w_613 := gtw (amm_2_90.2.2.2.2.2.1) rfl
noncomputable def w_614 := gtw (amm_2_96.1) rfl
noncomputable def w_615 := gtw (amm_2_96.2.1) rfl
noncomputable def w_616 := gtw (amm_2_96.2.2.1) rfl
noncomputable def w_617 := gtw (amm_2_96.2.2.2.1) rfl
noncomputable def w_618 := gtw (amm_2_96.2.2.2.2.1) rfl
noncomputable def w_619 := gtw (amm_2_96.2.2.2.2.2.1) rfl
noncomputable def w_620 := gtw (amm_2_102.1) rfl
noncomputable def w_621 := gtw (amm_2_102.2.1) rfl
noncomputable def w_622 := gtw (amm_2_102.2.2.1) rfl
noncomputable def w_624 := gtw (amm_2_102.2.2.2.2.1) rfl
noncomputable def w_625 := gtw (amm_2_102.2.2.2.2.2.1) rfl
noncomputable def w_626 := gtw (amm_2_108.1) rfl
noncomputable def w_627 := gtw (amm_2_108.2.1) rfl
noncomputable def w_628 := gtw (amm_2_108.2.2.1) rfl
noncomputable def w_629 := gtw (amm_2_108.2.2.2.1) rfl
noncomputable def w_630 := gtw (amm_2_108.2.2.2.2.1) rfl
noncomputable def w_633 := gtw (amm_2_114.2.1) rfl
noncomputable def w_634 := gtw (amm_2_114.2.2.1) rfl
noncomputable def w_635 := gtw (amm_2_114.2.2.2.1) rfl
noncomputable def w_636 := gtw (amm_2_114.2.2.2.2.1) rfl
noncomputable def w_637 := gtw (amm_2_114.2.2.2.2.2.1) rfl
noncomputable def w_638 := gtw (amm_2_120.1) rfl
noncomputable def w_639 := gtw (amm_2_120.2.1) rfl
noncomputable def w_640 := gtw (amm_2_120.2.2.1) rfl
noncomputable def w_641 := gtw (amm_2_120.2.2.2.1) rfl
noncomputable def w_642 := gtw (amm_2_120.2.2.2.2.1) rfl
noncomputable def w_644 := gtw (amm_2_126.1) rfl
noncomputable def w_645 := gtw (amm_2_126.2.1) rfl
noncomputable def w_646 := gtw (amm_2_126.2.2.1) rfl
noncomputable def w_647 := gtw (amm_2_126.2.2.2.1) rfl
noncomputable def w_648 := gtw (amm_2_126.2.2.2.2.1) rfl
noncomputable def w_649 := gtw (amm_2_126.2.2.2.2.2.1) rfl
noncomputable def w_650 := gtw (amm_2_132.1) rfl
noncomputable def w_651 := gtw (amm_2_132.2.1) rfl
noncomputable def w_652 := gtw (amm_2_132.2.2.1) rfl
noncomputable def w_653 := gtw (amm_2_132.2.2.2.1) rfl
noncomputable def w_654 := gtw (amm_2_132.2.2.2.2.1) rfl
noncomputable def w_655 := gtw (amm_2_132.2.2.2.2.2.1) rfl
noncomputable def w_656 := gtw (amm_2_138.1) rfl
noncomputable def w_657 := gtw (amm_2_138.2.1) rfl
noncomputable def w_658 := gtw (amm_2_138.2.2.1) rfl
noncomputable def w_659 := gtw (amm_2_138.2.2.2.1) rfl
noncomputable def w_660 := gtw (amm_2_138.2.2.2.2.1) rfl
noncomputable def w_661 := gtw (amm_2_138.2.2.2.2.2.1) rfl
noncomputable def w_662 := gtw (amm_2_144.1) rfl
noncomputable def w_663 := gtw (amm_2_144.2.1) rfl
noncomputable def w_664 := gtw (amm_2_144.2.2.1) rfl
noncomputable def w_665 := gtw (amm_2_144.2.2.2.1) rfl
noncomputable def w_666 := gtw (amm_2_144.2.2.2.2.1) rfl
noncomputable def w_667 := gtw (amm_2_144.2.2.2.2.2.1) rfl
noncomputable def w_668 := gtw (amm_2_150.1) rfl
noncomputable def w_669 := gtw (amm_2_150.2.1) rfl
noncomputable def w_670 := gtw (amm_2_150.2.2.1) rfl
noncomputable def w_671 := gtw (amm_2_150.2.2.2.1) rfl
noncomputable def w_672 := gtw (amm_2_150.2.2.2.2.1) rfl
noncomputable def w_673 := gtw (amm_2_150.2.2.2.2.2.1) rfl
noncomputable def w_674 := gtw (amm_2_156.1) rfl
noncomputable def w_675 := gtw (amm_2_156.2.1) rfl
noncomputable def w_676 := gtw (amm_2_156.2.2.1) rfl
noncomputable def w_678 := gtw (amm_2_156.2.2.2.2.1) rfl
noncomputable def w_679 := gtw (amm_2_156.2.2.2.2.2.1) rfl
noncomputable def w_680 := gtw (amm_2_162.1) rfl
noncomputable def w_681 := gtw (amm_2_162.2.1) rfl
noncomputable def w_682 := gtw (amm_2_162.2.2.1) rfl
noncomputable def w_683 := gtw (amm_2_162.2.2.2.1) rfl
noncomputable def w_684 := gtw (amm_2_162.2.2.2.2.1) rfl
noncomputable def w_685 := gtw (amm_2_162.2.2.2.2.2.1) rfl
noncomputable def w_686 := gtw (amm_2_168.1) rfl
noncomputable def w_687 := gtw (amm_2_168.2.1) rfl
noncomputable def w_688 := gtw (amm_2_168.2.2.1) rfl
noncomputable def w_689 := gtw (amm_2_168.2.2.2.1) rfl
noncomputable def w_690 := gtw (amm_2_168.2.2.2.2.1) rfl
noncomputable def w_692 := gtw (amm_2_174.1) rfl
noncomputable def w_693 := gtw (amm_2_174.2.1) rfl
noncomputable def w_694 := gtw (amm_2_174.2.2.1) rfl
noncomputable def w_695 := gtw (amm_2_174.2.2.2.1) rfl
noncomputable def w_696 := gtw (amm_2_174.2.2.2.2.1) rfl
noncomputable def w_697 := gtw (amm_2_174.2.2.2.2.2.1) rfl
noncomputable def w_698 := gtw (amm_2_180.1) rfl
noncomputable def w_699 := gtw (amm_2_180.2.1) rfl
noncomputable def w_700 := gtw (amm_2_180.2.2.1) rfl
noncomputable def w_701 := gtw (amm_2_180.2.2.2.1) rfl
noncomputable def w_702 := gtw (amm_2_180.2.2.2.2.1) rfl
noncomputable def w_703 := gtw (amm_2_180.2.2.2.2.2.1) rfl
noncomputable def w_705 := gtw (amm_2_186.2.1) rfl
noncomputable def w_707 := gtw (amm_2_186.2.2.2.1) rfl
noncomputable def w_709 := gtw (amm_2_186.2.2.2.2.2.1) rfl
noncomputable def w_712 := gtw (amm_2_192.2.2.1) rfl
noncomputable def w_713 := gtw (amm_2_192.2.2.2.1) rfl
noncomputable def w_714 := gtw (amm_2_192.2.2.2.2.1) rfl
noncomputable def w_715 := gtw (amm_2_192.2.2.2.2.2.1) rfl
noncomputable def w_716 := gtw (amm_2_198.1) rfl
noncomputable def w_717 := gtw (amm_2_198.2.1) rfl
noncomputable def w_718 := gtw (amm_2_198.2.2.1) rfl
noncomputable def w_719 := gtw (amm_2_198.2.2.2.1) rfl
noncomputable def w_720 := gtw (amm_2_198.2.2.2.2.1) rfl
noncomputable def w_721 := gtw (amm_2_198.2.2.2.2.2.1) rfl
noncomputable def w_722 := gtw (amm_2_204.1) rfl
noncomputable def w_724 := gtw (amm_2_204.2.2.1) rfl
noncomputable def w_725 := gtw (amm_2_204.2.2.2.1) rfl
noncomputable def w_726 := gtw (amm_2_204.2.2.2.2.1) rfl
noncomputable def w_728 := gtw (amm_2_210.1) rfl
noncomputable def w_729 := gtw (amm_2_210.2.1) rfl
noncomputable def w_730 := gtw (amm_2_210.2.2.1) rfl
noncomputable def w_731 := gtw (amm_2_210.2.2.2.1) rfl
noncomputable def w_732 := gtw (amm_2_210.2.2.2.2.1) rfl
noncomputable def w_733 := gtw (amm_2_210.2.2.2.2.2.1) rfl
noncomputable def w_734 := gtw (amm_2_216.1) rfl
noncomputable def w_735 := gtw (amm_2_216.2.1) rfl
noncomputable def w_736 := gtw (amm_2_216.2.2.1) rfl
noncomputable def w_737 := gtw (amm_2_216.2.2.2.1) rfl
noncomputable def w_738 := gtw (amm_2_216.2.2.2.2.1) rfl
noncomputable def w_739 := gtw (amm_2_216.2.2.2.2.2.1) rfl
noncomputable def w_740 := gtw (amm_2_222.1) rfl
noncomputable def w_741 := gtw (amm_2_222.2.1) rfl
noncomputable def w_742 := gtw (amm_2_222.2.2.1) rfl
noncomputable def w_743 := gtw (amm_2_222.2.2.2.1) rfl
noncomputable def w_744 := gtw (amm_2_222.2.2.2.2.1) rfl
noncomputable def w_746 := gtw (amm_2_228.1) rfl
noncomputable def w_750 := gtw (amm_2_228.2.2.2.2.1) rfl
noncomputable def w_751 := gtw (amm_2_228.2.2.2.2.2.1) rfl
noncomputable def w_752 := gtw (amm_2_234.1) rfl
noncomputable def w_753 := gtw (amm_2_234.2.1) rfl
noncomputable def w_754 := gtw (amm_2_234.2.2.1) rfl
noncomputable def w_755 := gtw (amm_2_234.2.2.2.1) rfl
noncomputable def w_756 := gtw (amm_2_234.2.2.2.2.1) rfl
noncomputable def w_757 := gtw (amm_2_234.2.2.2.2.2.1) rfl
noncomputable def w_758 := gtw (amm_3.1) rfl
noncomputable def w_761 := gtw (amm_3.2.2.2.1) rfl
noncomputable def w_762 := gtw (amm_3.2.2.2.2.1) rfl
noncomputable def w_763 := gtw (amm_3.2.2.2.2.2.1) rfl
noncomputable def w_764 := gtw (amm_3_6.1) rfl
noncomputable def w_765 := gtw (amm_3_6.2.1) rfl
noncomputable def w_767 := gtw (amm_3_6.2.2.2.1) rfl
noncomputable def w_768 := gtw (amm_3_6.2.2.2.2.1) rfl
noncomputable def w_769 := gtw (amm_3_6.2.2.2.2.2.1) rfl
noncomputable def w_770 := gtw (amm_3_12.1) rfl
noncomputable def w_771 := gtw (amm_3_12.2.1) rfl
noncomputable def w_772 := gtw (amm_3_12.2.2.1) rfl
noncomputable def w_773 := gtw (amm_3_12.2.2.2.1) rfl
noncomputable def w_774 := gtw (amm_3_12.2.2.2.2.1) rfl
noncomputable def w_775 := gtw (amm_3_12.2.2.2.2.2.1) rfl
noncomputable def w_776 := gtw (amm_3_18.1) rfl
noncomputable def w_777 := gtw (amm_3_18.2.1) rfl
noncomputable def w_778 := gtw (amm_3_18.2.2.1) rfl
noncomputable def w_779 := gtw (amm_3_18.2.2.2.1) rfl
noncomputable def w_780 := gtw (amm_3_18.2.2.2.2.1) rfl
noncomputable def w_781 := gtw (amm_3_18.2.2.2.2.2.1) rfl
noncomputable def w_782 := gtw (amm_3_24.1) rfl
noncomputable def w_783 := gtw (amm_3_24.2.1) rfl
noncomputable def w_784 := gtw (amm_3_24.2.2.1) rfl
noncomputable def w_786 := gtw (amm_3_24.2.2.2.2.1) rfl
noncomputable def w_787 := gtw (amm_3_24.2.2.2.2.2.1) rfl
noncomputable def w_788 := gtw (amm_3_30.1) rfl
noncomputable def w_789 := gtw (amm_3_30.2.1) rfl
noncomputable def w_790 := gtw (amm_3_30.2.2.1) rfl
noncomputable def w_791 := gtw (amm_3_30.2.2.2.1) rfl
noncomputable def w_792 := gtw (amm_3_30.2.2.2.2.1) rfl
noncomputable def w_794 := gtw (amm_3_36.1) rfl
noncomputable def w_796 := gtw (amm_3_36.2.2.1) rfl
noncomputable def w_798 := gtw (amm_3_36.2.2.2.2.1) rfl
noncomputable def w_799 := gtw (amm_3_36.2.2.2.2.2.1) rfl
noncomputable def w_800 := gtw (amm_3_42.1) rfl
noncomputable def w_801 := gtw (amm_3_42.2.1) rfl
noncomputable def w_802 := gtw (amm_3_42.2.2.1) rfl
noncomputable def w_803 := gtw (amm_3_42.2.2.2.1) rfl
noncomputable def w_804 := gtw (amm_3_42.2.2.2.2.1) rfl
noncomputable def w_805 := gtw (amm_3_42.2.2.2.2.2.1) rfl
noncomputable def w_806 := gtw (amm_3_48.1) rfl
noncomputable def w_807 := gtw (amm_3_48.2.1) rfl
noncomputable def w_808 := gtw (amm_3_48.2.2.1) rfl
noncomputable def w_809 := gtw (amm_3_48.2.2.2.1) rfl
noncomputable def w_810 := gtw (amm_3_48.2.2.2.2.1) rfl
noncomputable def w_811 := gtw (amm_3_48.2.2.2.2.2.1) rfl
noncomputable def w_812 := gtw (amm_3_54.1) rfl
noncomputable def w_813 := gtw (amm_3_54.2.1) rfl
noncomputable def w_814 := gtw (amm_3_54.2.2.1) rfl
noncomputable def w_815 := gtw (amm_3_54.2.2.2.1) rfl
noncomputable def w_816 := gtw (amm_3_54.2.2.2.2.1) rfl
noncomputable def w_817 := gtw (amm_3_54.2.2.2.2.2.1) rfl
noncomputable def w_818 := gtw (amm_3_60.1) rfl
noncomputable def w_819 := gtw (amm_3_60.2.1) rfl
noncomputable def w_820 := gtw (amm_3_60.2.2.1) rfl
noncomputable def w_821 := gtw (amm_3_60.2.2.2.1) rfl
noncomputable def w_822 := gtw (amm_3_60.2.2.2.2.1) rfl
noncomputable def w_823 := gtw (amm_3_60.2.2.2.2.2.1) rfl
noncomputable def w_824 := gtw (amm_3_66.1) rfl
noncomputable def w_825 := gtw (amm_3_66.2.1) rfl
noncomputable def w_826 := gtw (amm_3_66.2.2.1) rfl
noncomputable def w_828 := gtw (amm_3_66.2.2.2.2.1) rfl
noncomputable def w_830 := gtw (amm_3_72.1) rfl
noncomputable def w_831 := gtw (amm_3_72.2.1) rfl
noncomputable def w_832 := gtw (amm_3_72.2.2.1) rfl
noncomputable def w_833 := gtw (amm_3_72.2.2.2.1) rfl
noncomputable def w_834 := gtw (amm_3_72.2.2.2.2.1) rfl
noncomputable def w_835 := gtw (amm_3_72.2.2.2.2.2.1) rfl
noncomputable def w_836 := gtw (amm_3_78.1) rfl
noncomputable def w_837 := gtw (amm_3_78.2.1) rfl
noncomputable def w_838 := gtw (amm_3_78.2.2.1) rfl
noncomputable def w_839 := gtw (amm_3_78.2.2.2.1) rfl
noncomputable def w_840 := gtw (amm_3_78.2.2.2.2.1) rfl
noncomputable def w_841 := gtw (amm_3_78.2.2.2.2.2.1) rfl
noncomputable def w_842 := gtw (amm_3_84.1) rfl
noncomputable def w_843 := gtw (amm_3_84.2.1) rfl
noncomputable def w_844 := gtw (amm_3_84.2.2.1) rfl
noncomputable def w_845 := gtw (amm_3_84.2.2.2.1) rfl
noncomputable def w_846 := gtw (amm_3_84.2.2.2.2.1) rfl
noncomputable def w_847 := gtw (amm_3_84.2.2.2.2.2.1) rfl
noncomputable def w_848 := gtw (amm_3_90.1) rfl
noncomputable def w_849 := gtw (amm_3_90.2.1) rfl
noncomputable def w_850 := gtw (amm_3_90.2.2.1) rfl
noncomputable def w_851 := gtw (amm_3_90.2.2.2.1) rfl
noncomputable def w_852 := gtw (amm_3_90.2.2.2.2.1) rfl
noncomputable def w_853 := gtw (amm_3_90.2.2.2.2.2.1) rfl
noncomputable def w_854 := gtw (amm_3_96.1) rfl
noncomputable def w_855 := gtw (amm_3_96.2.1) rfl
noncomputable def w_856 := gtw (amm_3_96.2.2.1) rfl
noncomputable def w_857 := gtw (amm_3_96.2.2.2.1) rfl
noncomputable def w_858 := gtw (amm_3_96.2.2.2.2.1) rfl
noncomputable def w_859 := gtw (amm_3_96.2.2.2.2.2.1) rfl
noncomputable def w_860 := gtw (amm_3_102.1) rfl
noncomputable def w_861 := gtw (amm_3_102.2.1) rfl
noncomputable def w_864 := gtw (amm_3_102.2.2.2.2.1) rfl
noncomputable def w_865 := gtw (amm_3_102.2.2.2.2.2.1) rfl
noncomputable def w_866 := gtw (amm_3_108.1) rfl
noncomputable def w_869 := gtw (amm_3_108.2.2.2.1) rfl
noncomputable def w_870 := gtw (amm_3_108.2.2.2.2.1) rfl
noncomputable def w_871 := gtw (amm_3_108.2.2.2.2.2.1) rfl
noncomputable def w_872 := gtw (amm_3_114.1) rfl
noncomputable def w_873 := gtw (amm_3_114.2.1) rfl
noncomputable def w_874 := gtw (amm_3_114.2.2.1) rfl
noncomputable def w_875 := gtw (amm_3_114.2.2.2.1) rfl
noncomputable def w_876 := gtw (amm_3_114.2.2.2.2.1) rfl
noncomputable def w_877 := gtw (amm_3_114.2.2.2.2.2.1) rfl
noncomputable def w_878 := gtw (amm_3_120.1) rfl
noncomputable def w_879 := gtw (amm_3_120.2.1) rfl
noncomputable def w_880 := gtw (amm_3_120.2.2.1) rfl
noncomputable def w_881 := gtw (amm_3_120.2.2.2.1) rfl
noncomputable def w_882 := gtw (amm_3_120.2.2.2.2.1) rfl
noncomputable def w_883 := gtw (amm_3_120.2.2.2.2.2.1) rfl
noncomputable def w_884 := gtw (amm_3_126.1) rfl
noncomputable def w_885 := gtw (amm_3_126.2.1) rfl
noncomputable def w_886 := gtw (amm_3_126.2.2.1) rfl
noncomputable def w_888 := gtw (amm_3_126.2.2.2.2.1) rfl
noncomputable def w_889 := gtw (amm_3_126.2.2.2.2.2.1) rfl
noncomputable def w_890 := gtw (amm_3_132.1) rfl
noncomputable def w_891 := gtw (amm_3_132.2.1) rfl
noncomputable def w_892 := gtw (amm_3_132.2.2.1) rfl
noncomputable def w_893 := gtw (amm_3_132.2.2.2.1) rfl
noncomputable def w_894 := gtw (amm_3_132.2.2.2.2.1) rfl
noncomputable def w_895 := gtw (amm_3_132.2.2.2.2.2.1) rfl
noncomputable def w_897 := gtw (amm_3_138.2.1) rfl
noncomputable def w_898 := gtw (amm_3_138.2.2.1) rfl
noncomputable def w_899 := gtw (amm_3_138.2.2.2.1) rfl
noncomputable def w_900 := gtw (amm_3_138.2.2.2.2.1) rfl
noncomputable def w_901 := gtw (amm_3_138.2.2.2.2.2.1) rfl
noncomputable def w_902 := gtw (amm_3_144.1) rfl
noncomputable def w_903 := gtw (amm_3_144.2.1) rfl
noncomputable def w_904 := gtw (amm_3_144.2.2.1) rfl
noncomputable def w_905 := gtw (amm_3_144.2.2.2.1) rfl
noncomputable def w_906 := gtw (amm_3_144.2.2.2.2.1) rfl
noncomputable def w_907 := gtw (amm_3_144.2.2.2.2.2.1) rfl
noncomputable def w_908 := gtw (amm_3_150.1) rfl
noncomputable def w_909 := gtw (amm_3_150.2.1) rfl
noncomputable def w_910 := gtw (amm_3_150.2.2.1) rfl
noncomputable def w_911 := gtw (amm_3_150.2.2.2.1) rfl
noncomputable def w_913 := gtw (amm_3_150.2.2.2.2.2.1) rfl
noncomputable def w_914 := gtw (amm_3_156.1) rfl
noncomputable def w_915 := gtw (amm_3_156.2.1) rfl
noncomputable def w_917 := gtw (amm_3_156.2.2.2.1) rfl
noncomputable def w_918 := gtw (amm_3_156.2.2.2.2.1) rfl
noncomputable def w_919 := gtw (amm_3_156.2.2.2.2.2.1) rfl
noncomputable def w_920 := gtw (amm_3_162.1) rfl
noncomputable def w_921 := gtw (amm_3_162.2.1) rfl
noncomputable def w_922 := gtw (amm_3_162.2.2.1) rfl
noncomputable def w_923 := gtw (amm_3_162.2.2.2.1) rfl
noncomputable def w_924 := gtw (amm_3_162.2.2.2.2.1) rfl
noncomputable def w_925 := gtw (amm_3_162.2.2.2.2.2.1) rfl
noncomputable def w_926 := gtw (amm_3_168.1) rfl
noncomputable def w_927 := gtw (amm_3_168.2.1) rfl
noncomputable def w_928 := gtw (amm_3_168.2.2.1) rfl
noncomputable def w_929 := gtw (amm_3_168.2.2.2.1) rfl
noncomputable def w_930 := gtw (amm_3_168.2.2.2.2.1) rfl
noncomputable def w_931 := gtw (amm_3_168.2.2.2.2.2.1) rfl
noncomputable def w_932 := gtw (amm_3_174.1) rfl
noncomputable def w_933 := gtw (amm_3_174.2.1) rfl
noncomputable def w_934 := gtw (amm_3_174.2.2.1) rfl
noncomputable def w_935 := gtw (amm_3_174.2.2.2.1) rfl
noncomputable def w_936 := gtw (amm_3_174.2.2.2.2.1) rfl
noncomputable def w_937 := gtw (amm_3_174.2.2.2.2.2.1) rfl
noncomputable def w_938 := gtw (amm_3_180.1) rfl
noncomputable def w_939 := gtw (amm_3_180.2.1) rfl
noncomputable def w_940 := gtw (amm_3_180.2.2.1) rfl
noncomputable def w_941 := gtw (amm_3_180.2.2.2.1) rfl
noncomputable def w_942 := gtw (amm_3_180.2.2.2.2.1) rfl
noncomputable def w_943 := gtw (amm_3_180.2.2.2.2.2.1) rfl
noncomputable def w_945 := gtw (amm_3_186.2.1) rfl
noncomputable def w_947 := gtw (amm_3_186.2.2.2.1) rfl
noncomputable def w_949 := gtw (amm_3_186.2.2.2.2.2.1) rfl
noncomputable def w_952 := gtw (amm_3_192.2.2.1) rfl
noncomputable def w_953 := gtw (amm_3_192.2.2.2.1) rfl
noncomputable def w_954 := gtw (amm_3_192.2.2.2.2.1) rfl
noncomputable def w_955 := gtw (amm_3_192.2.2.2.2.2.1) rfl
noncomputable def w_956 := gtw (amm_3_198.1) rfl
noncomputable def w_957 := gtw (amm_3_198.2.1) rfl
noncomputable def w_958 := gtw (amm_3_198.2.2.1) rfl
noncomputable def w_959 := gtw (amm_3_198.2.2.2.1) rfl
noncomputable def w_961 := gtw (amm_3_198.2.2.2.2.2.1) rfl
noncomputable def w_962 := gtw (amm_3_204.1) rfl
noncomputable def w_964 := gtw (amm_3_204.2.2.1) rfl
noncomputable def w_965 := gtw (amm_3_204.2.2.2.1) rfl
noncomputable def w_966 := gtw (amm_3_204.2.2.2.2.1) rfl
noncomputable def w_967 := gtw (amm_3_204.2.2.2.2.2.1) rfl
noncomputable def w_968 := gtw (amm_3_210.1) rfl
noncomputable def w_969 := gtw (amm_3_210.2.1) rfl
noncomputable def w_970 := gtw (amm_3_210.2.2.1) rfl
noncomputable def w_971 := gtw (amm_3_210.2.2.2.1) rfl
noncomputable def w_972 := gtw (amm_3_210.2.2.2.2.1) rfl
noncomputable def w_973 := gtw (amm_3_210.2.2.2.2.2.1) rfl
noncomputable def w_974 := gtw (amm_3_216.1) rfl
noncomputable def w_975 := gtw (amm_3_216.2.1) rfl
noncomputable def w_976 := gtw (amm_3_216.2.2.1) rfl
noncomputable def w_977 := gtw (amm_3_216.2.2.2.1) rfl
noncomputable def w_978 := gtw (amm_3_216.2.2.2.2.1) rfl
noncomputable def w_979 := gtw (amm_3_216.2.2.2.2.2.1) rfl
noncomputable def w_980 := gtw (amm_3_222.1) rfl
noncomputable def w_981 := gtw (amm_3_222.2.1) rfl
noncomputable def w_982 := gtw (amm_3_222.2.2.1) rfl
noncomputable def w_983 := gtw (amm_3_222.2.2.2.1) rfl
noncomputable def w_984 := gtw (amm_3_222.2.2.2.2.1) rfl
noncomputable def w_985 := gtw (amm_3_222.2.2.2.2.2.1) rfl
noncomputable def w_986 := gtw (amm_3_228.1) rfl
noncomputable def w_987 := gtw (amm_3_228.2.1) rfl
noncomputable def w_988 := gtw (amm_3_228.2.2.1) rfl
noncomputable def w_989 := gtw (amm_3_228.2.2.2.1) rfl
noncomputable def w_990 := gtw (amm_3_228.2.2.2.2.1) rfl
noncomputable def w_991 := gtw (amm_3_228.2.2.2.2.2.1) rfl
noncomputable def w_992 := gtw (amm_3_234.1) rfl
noncomputable def w_993 := gtw (amm_3_234.2.1) rfl
noncomputable def w_994 := gtw (amm_3_234.2.2.1) rfl
noncomputable def w_995 := gtw (amm_3_234.2.2.2.1) rfl
noncomputable def w_996 := gtw (amm_3_234.2.2.2.2.1) rfl
noncomputable def w_997 := gtw (amm_3_234.2.2.2.2.2.1) rfl
noncomputable def w_998 := gtw (amm_4.1) rfl
noncomputable def w_1000 := gtw (amm_4.2.2.1) rfl
noncomputable def w_1001 := gtw (amm_4.2.2.2.1) rfl
noncomputable def w_1002 := gtw (amm_4.2.2.2.2.1) rfl
noncomputable def w_1003 := gtw (amm_4.2.2.2.2.2.1) rfl
noncomputable def w_1004 := gtw (amm_4_6.1) rfl
noncomputable def w_1005 := gtw (amm_4_6.2.1) rfl
noncomputable def w_1006 := gtw (amm_4_6.2.2.1) rfl
noncomputable def w_1007 := gtw (amm_4_6.2.2.2.1) rfl
noncomputable def w_1008 := gtw (amm_4_6.2.2.2.2.1) rfl
noncomputable def w_1009 := gtw (amm_4_6.2.2.2.2.2.1) rfl
noncomputable def w_1010 := gtw (amm_4_12.1) rfl
noncomputable def w_1011 := gtw (amm_4_12.2.1) rfl
noncomputable def w_1012 := gtw (amm_4_12.2.2.1) rfl
noncomputable def w_1013 := gtw (amm_4_12.2.2.2.1) rfl
noncomputable def w_1014 := gtw (amm_4_12.2.2.2.2.1) rfl
noncomputable def w_1015 := gtw (amm_4_12.2.2.2.2.2.1) rfl
noncomputable def w_1016 := gtw (amm_4_18.1) rfl
noncomputable def w_1017 := gtw (amm_4_18.2.1) rfl
noncomputable def w_1018 := gtw (amm_4_18.2.2.1) rfl
noncomputable def w_1019 := gtw (amm_4_18.2.2.2.1) rfl
noncomputable def w_1020 := gtw (amm_4_18.2.2.2.2.1) rfl
noncomputable def w_1021 := gtw (amm_4_18.2.2.2.2.2.1) rfl
noncomputable def w_1022 := gtw (amm_4_24.1) rfl
noncomputable def w_1023 := gtw (amm_4_24.2.1) rfl
noncomputable def w_1024 := gtw (amm_4_24.2.2.1) rfl
noncomputable def w_1025 := gtw (amm_4_24.2.2.2.1) rfl
noncomputable def w_1026 := gtw (amm_4_24.2.2.2.2.1) rfl
noncomputable def w_1027 := gtw (amm_4_24.2.2.2.2.2.1) rfl
noncomputable def w_1028 := gtw (amm_4_30.1) rfl
noncomputable def w_1029 := gtw (amm_4_30.2.1) rfl
noncomputable def w_1030 := gtw (amm_4_30.2.2.1) rfl
noncomputable def w_1031 := gtw (amm_4_30.2.2.2.1) rfl
noncomputable def w_1032 := gtw (amm_4_30.2.2.2.2.1) rfl
noncomputable def w_1033 := gtw (amm_4_30.2.2.2.2.2.1) rfl
noncomputable def w_1034 := gtw (amm_4_36.1) rfl
noncomputable def w_1035 := gtw (amm_4_36.2.1) rfl
noncomputable def w_1036 := gtw (amm_4_36.2.2.1) rfl
noncomputable def w_1037 := gtw (amm_4_36.2.2.2.1) rfl
noncomputable def w_1038 := gtw (amm_4_36.2.2.2.2.1) rfl
noncomputable def w_1039 := gtw (amm_4_36.2.2.2.2.2.1) rfl
noncomputable def w_1040 := gtw (amm_4_42.1) rfl
noncomputable def w_1041 := gtw (amm_4_42.2.1) rfl
noncomputable def w_1042 := gtw (amm_4_42.2.2.1) rfl
noncomputable def w_1043 := gtw (amm_4_42.2.2.2.1) rfl
noncomputable def w_1044 := gtw (amm_4_42.2.2.2.2.1) rfl
noncomputable def w_1045 := gtw (amm_4_42.2.2.2.2.2.1) rfl
noncomputable def w_1046 := gtw (amm_4_48.1) rfl
noncomputable def w_1047 := gtw (amm_4_48.2.1) rfl
noncomputable def w_1048 := gtw (amm_4_48.2.2.1) rfl
noncomputable def w_1049 := gtw (amm_4_48.2.2.2.1) rfl
noncomputable def w_1050 := gtw (amm_4_48.2.2.2.2.1) rfl
noncomputable def w_1051 := gtw (amm_4_48.2.2.2.2.2.1) rfl
noncomputable def w_1052 := gtw (amm_4_54.1) rfl
noncomputable def w_1053 := gtw (amm_4_54.2.1) rfl
noncomputable def w_1054 := gtw (amm_4_54.2.2.1) rfl
noncomputable def w_1055 := gtw (amm_4_54.2.2.2.1) rfl
noncomputable def w_1056 := gtw (amm_4_54.2.2.2.2.1) rfl
noncomputable def w_1057 := gtw (amm_4_54.2.2.2.2.2.1) rfl
noncomputable def w_1058 := gtw (amm_4_60.1) rfl
noncomputable def w_1059 := gtw (amm_4_60.2.1) rfl
noncomputable def w_1060 := gtw (amm_4_60.2.2.1) rfl
noncomputable def w_1061 := gtw (amm_4_60.2.2.2.1) rfl
noncomputable def w_1062 := gtw (amm_4_60.2.2.2.2.1) rfl
noncomputable def w_1063 := gtw (amm_4_60.2.2.2.2.2.1) rfl
noncomputable def w_1064 := gtw (amm_4_66.1) rfl
noncomputable def w_1065 := gtw (amm_4_66.2.1) rfl
noncomputable def w_1066 := gtw (amm_4_66.2.2.1) rfl
noncomputable def w_1067 := gtw (amm_4_66.2.2.2.1) rfl
noncomputable def w_1068 := gtw (amm_4_66.2.2.2.2.1) rfl
noncomputable def w_1069 := gtw (amm_4_66.2.2.2.2.2.1) rfl
noncomputable def w_1070 := gtw (amm_4_72.1) rfl
noncomputable def w_1071 := gtw (amm_4_72.2.1) rfl
noncomputable def w_1072 := gtw (amm_4_72.2.2.1) rfl
noncomputable def w_1073 := gtw (amm_4_72.2.2.2.1) rfl
noncomputable def w_1074 := gtw (amm_4_72.2.2.2.2.1) rfl
noncomputable def w_1075 := gtw (amm_4_72.2.2.2.2.2.1) rfl
noncomputable def w_1076 := gtw (amm_4_78.1) rfl
noncomputable def w_1077 := gtw (amm_4_78.2.1) rfl
noncomputable def w_1078 := gtw (amm_4_78.2.2.1) rfl
noncomputable def w_1079 := gtw (amm_4_78.2.2.2.1) rfl
noncomputable def w_1080 := gtw (amm_4_78.2.2.2.2.1) rfl
noncomputable def w_1081 := gtw (amm_4_78.2.2.2.2.2.1) rfl
noncomputable def w_1082 := gtw (amm_4_84.1) rfl
noncomputable def w_1083 := gtw (amm_4_84.2.1) rfl
noncomputable def w_1084 := gtw (amm_4_84.2.2.1) rfl
noncomputable def w_1085 := gtw (amm_4_84.2.2.2.1) rfl
noncomputable def w_1086 := gtw (amm_4_84.2.2.2.2.1) rfl
noncomputable def w_1087 := gtw (amm_4_84.2.2.2.2.2.1) rfl
noncomputable def w_1088 := gtw (amm_4_90.1) rfl
noncomputable def w_1089 := gtw (amm_4_90.2.1) rfl
noncomputable def w_1090 := gtw (amm_4_90.2.2.1) rfl
noncomputable def w_1091 := gtw (amm_4_90.2.2.2.1) rfl
noncomputable def w_1092 := gtw (amm_4_90.2.2.2.2.1) rfl
noncomputable def w_1093 := gtw (amm_4_90.2.2.2.2.2.1) rfl
noncomputable def w_1094 := gtw (amm_4_96.1) rfl
noncomputable def w_1095 := gtw (amm_4_96.2.1) rfl
noncomputable def w_1096 := gtw (amm_4_96.2.2.1) rfl
noncomputable def w_1097 := gtw (amm_4_96.2.2.2.1) rfl
noncomputable def w_1098 := gtw (amm_4_96.2.2.2.2.1) rfl
noncomputable def w_1099 := gtw (amm_4_96.2.2.2.2.2.1) rfl
noncomputable def w_1100 := gtw (amm_4_102.1) rfl
noncomputable def w_1101 := gtw (amm_4_102.2.1) rfl
noncomputable def w_1102 := gtw (amm_4_102.2.2.1) rfl
noncomputable def w_1103 := gtw (amm_4_102.2.2.2.1) rfl
noncomputable def w_1104 := gtw (amm_4_102.2.2.2.2.1) rfl
noncomputable def w_1105 := gtw (amm_4_102.2.2.2.2.2.1) rfl
noncomputable def w_1106 := gtw (amm_4_108.1) rfl
noncomputable def w_1107 := gtw (amm_4_108.2.1) rfl
noncomputable def w_1108 := gtw (amm_4_108.2.2.1) rfl
noncomputable def w_1109 := gtw (amm_4_108.2.2.2.1) rfl
noncomputable def w_1110 := gtw (amm_4_108.2.2.2.2.1) rfl
noncomputable def w_1111 := gtw (amm_4_108.2.2.2.2.2.1) rfl
noncomputable def w_1113 := gtw (amm_4_114.2.1) rfl
noncomputable def w_1114 := gtw (amm_4_114.2.2.1) rfl
noncomputable def w_1115 := gtw (amm_4_114.2.2.2.1) rfl
noncomputable def w_1116 := gtw (amm_4_114.2.2.2.2.1) rfl
noncomputable def w_1117 := gtw (amm_4_114.2.2.2.2.2.1) rfl
noncomputable def w_1118 := gtw (amm_4_120.1) rfl
noncomputable def w_1119 := gtw (amm_4_120.2.1) rfl
noncomputable def w_1120 := gtw (amm_4_120.2.2.1) rfl
noncomputable def w_1121 := gtw (amm_4_120.2.2.2.1) rfl
noncomputable def w_1122 := gtw (amm_4_120.2.2.2.2.1) rfl
noncomputable def w_1123 := gtw (amm_4_120.2.2.2.2.2.1) rfl
noncomputable def w_1124 := gtw (amm_4_126.1) rfl
noncomputable def w_1125 := gtw (amm_4_126.2.1) rfl
noncomputable def w_1126 := gtw (amm_4_126.2.2.1) rfl
noncomputable def w_1127 := gtw (amm_4_126.2.2.2.1) rfl
noncomputable def w_1129 := gtw (amm_4_126.2.2.2.2.2.1) rfl
noncomputable def w_1131 := gtw (amm_4_132.2.1) rfl
noncomputable def w_1133 := gtw (amm_4_132.2.2.2.1) rfl
noncomputable def w_1135 := gtw (amm_4_132.2.2.2.2.2.1) rfl
noncomputable def w_1137 := gtw (amm_4_138.2.1) rfl
noncomputable def w_1139 := gtw (amm_4_138.2.2.2.1) rfl
noncomputable def w_1141 := gtw (amm_4_138.2.2.2.2.2.1) rfl
noncomputable def w_1143 := gtw (amm_4_144.2.1) rfl
noncomputable def w_1145 := gtw (amm_4_144.2.2.2.1) rfl
noncomputable def w_1147 := gtw (amm_4_144.2.2.2.2.2.1) rfl
noncomputable def w_1149 := gtw (amm_4_150.2.1) rfl
noncomputable def w_1151 := gtw (amm_4_150.2.2.2.1) rfl
noncomputable def w_1153 := gtw (amm_4_150.2.2.2.2.2.1) rfl
noncomputable def w_1156 := gtw (amm_4_156.2.2.1) rfl
noncomputable def w_1157 := gtw (amm_4_156.2.2.2.1) rfl
noncomputable def w_1158 := gtw (amm_4_156.2.2.2.2.1) rfl
noncomputable def w_1159 := gtw (amm_4_156.2.2.2.2.2.1) rfl
noncomputable def w_1160 := gtw (amm_4_162.1) rfl
noncomputable def w_1161 := gtw (amm_4_162.2.1) rfl
noncomputable def w_1162 := gtw (amm_4_162.2.2.1) rfl
noncomputable def w_1163 := gtw (amm_4_162.2.2.2.1) rfl
noncomputable def w_1164 := gtw (amm_4_162.2.2.2.2.1) rfl
noncomputable def w_1165 := gtw (amm_4_162.2.2.2.2.2.1) rfl
noncomputable def w_1166 := gtw (amm_4_168.1) rfl
noncomputable def w_1167 := gtw (amm_4_168.2.1) rfl
noncomputable def w_1168 := gtw (amm_4_168.2.2.1) rfl
noncomputable def w_1169 := gtw (amm_4_168.2.2.2.1) rfl
noncomputable def w_1170 := gtw (amm_4_168.2.2.2.2.1) rfl
noncomputable def w_1171 := gtw (amm_4_168.2.2.2.2.2.1) rfl
noncomputable def w_1172 := gtw (amm_4_174.1) rfl
noncomputable def w_1173 := gtw (amm_4_174.2.1) rfl
noncomputable def w_1174 := gtw (amm_4_174.2.2.1) rfl
noncomputable def w_1176 := gtw (amm_4_174.2.2.2.2.1) rfl
noncomputable def w_1177 := gtw (amm_4_174.2.2.2.2.2.1) rfl
noncomputable def w_1178 := gtw (amm_4_180.1) rfl
noncomputable def w_1179 := gtw (amm_4_180.2.1) rfl
noncomputable def w_1180 := gtw (amm_4_180.2.2.1) rfl
noncomputable def w_1181 := gtw (amm_4_180.2.2.2.1) rfl
noncomputable def w_1182 := gtw (amm_4_180.2.2.2.2.1) rfl
noncomputable def w_1183 := gtw (amm_4_180.2.2.2.2.2.1) rfl
noncomputable def w_1184 := gtw (amm_4_186.1) rfl
noncomputable def w_1186 := gtw (amm_4_186.2.2.1) rfl
noncomputable def w_1187 := gtw (amm_4_186.2.2.2.1) rfl
noncomputable def w_1188 := gtw (amm_4_186.2.2.2.2.1) rfl
noncomputable def w_1190 := gtw (amm_4_192.1) rfl
noncomputable def w_1191 := gtw (amm_4_192.2.1) rfl
noncomputable def w_1192 := gtw (amm_4_192.2.2.1) rfl
noncomputable def w_1194 := gtw (amm_4_192.2.2.2.2.1) rfl
noncomputable def w_1195 := gtw (amm_4_192.2.2.2.2.2.1) rfl
noncomputable def w_1196 := gtw (amm_4_198.1) rfl
noncomputable def w_1197 := gtw (amm_4_198.2.1) rfl
noncomputable def w_1198 := gtw (amm_4_198.2.2.1) rfl
noncomputable def w_1199 := gtw (amm_4_198.2.2.2.1) rfl
noncomputable def w_1201 := gtw (amm_4_198.2.2.2.2.2.1) rfl
noncomputable def w_1202 := gtw (amm_4_204.1) rfl
noncomputable def w_1203 := gtw (amm_4_204.2.1) rfl
noncomputable def w_1204 := gtw (amm_4_204.2.2.1) rfl
noncomputable def w_1205 := gtw (amm_4_204.2.2.2.1) rfl
noncomputable def w_1206 := gtw (amm_4_204.2.2.2.2.1) rfl
noncomputable def w_1207 := gtw (amm_4_204.2.2.2.2.2.1) rfl
noncomputable def w_1209 := gtw (amm_4_210.2.1) rfl
noncomputable def w_1210 := gtw (amm_4_210.2.2.1) rfl
noncomputable def w_1211 := gtw (amm_4_210.2.2.2.1) rfl
noncomputable def w_1212 := gtw (amm_4_210.2.2.2.2.1) rfl
noncomputable def w_1213 := gtw (amm_4_210.2.2.2.2.2.1) rfl
noncomputable def w_1214 := gtw (amm_4_216.1) rfl
noncomputable def w_1215 := gtw (amm_4_216.2.1) rfl
noncomputable def w_1217 := gtw (amm_4_216.2.2.2.1) rfl
noncomputable def w_1218 := gtw (amm_4_216.2.2.2.2.1) rfl
noncomputable def w_1219 := gtw (amm_4_216.2.2.2.2.2.1) rfl
noncomputable def w_1221 := gtw (amm_4_222.2.1) rfl
noncomputable def w_1222 := gtw (amm_4_222.2.2.1) rfl
noncomputable def w_1223 := gtw (amm_4_222.2.2.2.1) rfl
noncomputable def w_1225 := gtw (amm_4_222.2.2.2.2.2.1) rfl
noncomputable def w_1226 := gtw (amm_4_228.1) rfl
noncomputable def w_1227 := gtw (amm_4_228.2.1) rfl
noncomputable def w_1229 := gtw (amm_4_228.2.2.2.1) rfl
noncomputable def w_1230 := gtw (amm_4_228.2.2.2.2.1) rfl
noncomputable def w_1231 := gtw (amm_4_228.2.2.2.2.2.1) rfl
noncomputable def w_1232 := gtw (amm_4_234.1) rfl
noncomputable def w_1233 := gtw (amm_4_234.2.1) rfl
noncomputable def w_1234 := gtw (amm_4_234.2.2.1) rfl
noncomputable def w_1235 := gtw (amm_4_234.2.2.2.1) rfl
noncomputable def w_1237 := gtw (amm_4_234.2.2.2.2.2.1) rfl
noncomputable def w_1238 := gtw (amm_5.1) rfl
noncomputable def w_1239 := gtw (amm_5.2.1) rfl
noncomputable def w_1241 := gtw (amm_5.2.2.2.1) rfl
noncomputable def w_1242 := gtw (amm_5.2.2.2.2.1) rfl
noncomputable def w_1243 := gtw (amm_5.2.2.2.2.2.1) rfl
noncomputable def w_1244 := gtw (amm_5_6.1) rfl
noncomputable def w_1245 := gtw (amm_5_6.2.1) rfl
noncomputable def w_1246 := gtw (amm_5_6.2.2.1) rfl
noncomputable def w_1247 := gtw (amm_5_6.2.2.2.1) rfl
noncomputable def w_1248 := gtw (amm_5_6.2.2.2.2.1) rfl
noncomputable def w_1249 := gtw (amm_5_6.2.2.2.2.2.1) rfl
noncomputable def w_1250 := gtw (amm_5_12.1) rfl
noncomputable def w_1251 := gtw (amm_5_12.2.1) rfl
noncomputable def w_1253 := gtw (amm_5_12.2.2.2.1) rfl
noncomputable def w_1254 := gtw (amm_5_12.2.2.2.2.1) rfl
noncomputable def w_1255 := gtw (amm_5_12.2.2.2.2.2.1) rfl
noncomputable def w_1257 := gtw (amm_5_18.2.1) rfl
noncomputable def w_1258 := gtw (amm_5_18.2.2.1) rfl
noncomputable def w_1259 := gtw (amm_5_18.2.2.2.1) rfl
noncomputable def w_1260 := gtw (amm_5_18.2.2.2.2.1) rfl
noncomputable def w_1261 := gtw (amm_5_18.2.2.2.2.2.1) rfl
noncomputable def w_1262 := gtw (amm_5_24.1) rfl
noncomputable def w_1263 := gtw (amm_5_24.2.1) rfl
noncomputable def w_1265 := gtw (amm_5_24.2.2.2.1) rfl
noncomputable def w_1266 := gtw (amm_5_24.2.2.2.2.1) rfl
noncomputable def w_1267 := gtw (amm_5_24.2.2.2.2.2.1) rfl
noncomputable def w_1268 := gtw (amm_5_30.1) rfl
noncomputable def w_1269 := gtw (amm_5_30.2.1) rfl
noncomputable def w_1270 := gtw (amm_5_30.2.2.1) rfl
noncomputable def w_1271 := gtw (amm_5_30.2.2.2.1) rfl
noncomputable def w_1272 := gtw (amm_5_30.2.2.2.2.1) rfl
noncomputable def w_1273 := gtw (amm_5_30.2.2.2.2.2.1) rfl
noncomputable def w_1274 := gtw (amm_5_36.1) rfl
noncomputable def w_1275 := gtw (amm_5_36.2.1) rfl
noncomputable def w_1276 := gtw (amm_5_36.2.2.1) rfl
noncomputable def w_1277 := gtw (amm_5_36.2.2.2.1) rfl
noncomputable def w_1278 := gtw (amm_5_36.2.2.2.2.1) rfl
noncomputable def w_1279 := gtw (amm_5_36.2.2.2.2.2.1) rfl
noncomputable def w_1280 := gtw (amm_5_42.1) rfl
noncomputable def w_1281 := gtw (amm_5_42.2.1) rfl
noncomputable def w_1282 := gtw (amm_5_42.2.2.1) rfl
noncomputable def w_1283 := gtw (amm_5_42.2.2.2.1) rfl
noncomputable def w_1284 := gtw (amm_5_42.2.2.2.2.1) rfl
noncomputable def w_1285 := gtw (amm_5_42.2.2.2.2.2.1) rfl
noncomputable def w_1286 := gtw (amm_5_48.1) rfl
noncomputable def w_1287 := gtw (amm_5_48.2.1) rfl
noncomputable def w_1288 := gtw (amm_5_48.2.2.1) rfl
noncomputable def w_1289 := gtw (amm_5_48.2.2.2.1) rfl
noncomputable def w_1290 := gtw (amm_5_48.2.2.2.2.1) rfl
noncomputable def w_1291 := gtw (amm_5_48.2.2.2.2.2.1) rfl
noncomputable def w_1292 := gtw (amm_5_54.1) rfl
noncomputable def w_1293 := gtw (amm_5_54.2.1) rfl
noncomputable def w_1294 := gtw (amm_5_54.2.2.1) rfl
noncomputable def w_1295 := gtw (amm_5_54.2.2.2.1) rfl
noncomputable def w_1296 := gtw (amm_5_54.2.2.2.2.1) rfl
noncomputable def w_1297 := gtw (amm_5_54.2.2.2.2.2.1) rfl
noncomputable def w_1298 := gtw (amm_5_60.1) rfl
noncomputable def w_1299 := gtw (amm_5_60.2.1) rfl
noncomputable def w_1300 := gtw (amm_5_60.2.2.1) rfl
noncomputable def w_1301 := gtw (amm_5_60.2.2.2.1) rfl
noncomputable def w_1302 := gtw (amm_5_60.2.2.2.2.1) rfl
noncomputable def w_1303 := gtw (amm_5_60.2.2.2.2.2.1) rfl
noncomputable def w_1304 := gtw (amm_5_66.1) rfl
noncomputable def w_1305 := gtw (amm_5_66.2.1) rfl
noncomputable def w_1306 := gtw (amm_5_66.2.2.1) rfl
noncomputable def w_1307 := gtw (amm_5_66.2.2.2.1) rfl
noncomputable def w_1308 := gtw (amm_5_66.2.2.2.2.1) rfl
noncomputable def w_1309 := gtw (amm_5_66.2.2.2.2.2.1) rfl
noncomputable def w_1310 := gtw (amm_5_72.1) rfl
noncomputable def w_1311 := gtw (amm_5_72.2.1) rfl
noncomputable def w_1312 := gtw (amm_5_72.2.2.1) rfl
noncomputable def w_1313 := gtw (amm_5_72.2.2.2.1) rfl
noncomputable def w_1315 := gtw (amm_5_72.2.2.2.2.2.1) rfl
noncomputable def w_1316 := gtw (amm_5_78.1) rfl
noncomputable def w_1317 := gtw (amm_5_78.2.1) rfl
noncomputable def w_1319 := gtw (amm_5_78.2.2.2.1) rfl
noncomputable def w_1320 := gtw (amm_5_78.2.2.2.2.1) rfl
noncomputable def w_1321 := gtw (amm_5_78.2.2.2.2.2.1) rfl
noncomputable def w_1323 := gtw (amm_5_84.2.1) rfl
noncomputable def w_1324 := gtw (amm_5_84.2.2.1) rfl
noncomputable def w_1325 := gtw (amm_5_84.2.2.2.1) rfl
noncomputable def w_1327 := gtw (amm_5_84.2.2.2.2.2.1) rfl
noncomputable def w_1328 := gtw (amm_5_90.1) rfl
noncomputable def w_1329 := gtw (amm_5_90.2.1) rfl
noncomputable def w_1330 := gtw (amm_5_90.2.2.1) rfl
noncomputable def w_1331 := gtw (amm_5_90.2.2.2.1) rfl
noncomputable def w_1332 := gtw (amm_5_90.2.2.2.2.1) rfl
noncomputable def w_1333 := gtw (amm_5_90.2.2.2.2.2.1) rfl
noncomputable def w_1334 := gtw (amm_5_96.1) rfl
noncomputable def w_1335 := gtw (amm_5_96.2.1) rfl
noncomputable def w_1336 := gtw (amm_5_96.2.2.1) rfl
noncomputable def w_1337 := gtw (amm_5_96.2.2.2.1) rfl
noncomputable def w_1338 := gtw (amm_5_96.2.2.2.2.1) rfl
noncomputable def w_1339 := gtw (amm_5_96.2.2.2.2.2.1) rfl
noncomputable def w_1340 := gtw (amm_5_102.1) rfl
noncomputable def w_1342 := gtw (amm_5_102.2.2.1) rfl
noncomputable def w_1344 := gtw (amm_5_102.2.2.2.2.1) rfl
noncomputable def w_1345 := gtw (amm_5_102.2.2.2.2.2.1) rfl
noncomputable def w_1347 := gtw (amm_5_108.2.1) rfl
noncomputable def w_1349 := gtw (amm_5_108.2.2.2.1) rfl
noncomputable def w_1350 := gtw (amm_5_108.2.2.2.2.1) rfl
noncomputable def w_1351 := gtw (amm_5_108.2.2.2.2.2.1) rfl
noncomputable def w_1352 := gtw (amm_5_114.1) rfl
noncomputable def w_1353 := gtw (amm_5_114.2.1) rfl
noncomputable def w_1354 := gtw (amm_5_114.2.2.1) rfl
noncomputable def w_1355 := gtw (amm_5_114.2.2.2.1) rfl
noncomputable def w_1356 := gtw (amm_5_114.2.2.2.2.1) rfl
noncomputable def w_1358 := gtw (amm_5_120.1) rfl
noncomputable def w_1359 := gtw (amm_5_120.2.1) rfl
noncomputable def w_1360 := gtw (amm_5_120.2.2.1) rfl
noncomputable def w_1362 := gtw (amm_5_120.2.2.2.2.1) rfl
noncomputable def w_1363 := gtw (amm_5_120.2.2.2.2.2.1) rfl
noncomputable def w_1364 := gtw (amm_5_126.1) rfl
noncomputable def w_1365 := gtw (amm_5_126.2.1) rfl
noncomputable def w_1366 := gtw (amm_5_126.2.2.1) rfl
noncomputable def w_1367 := gtw (amm_5_126.2.2.2.1) rfl
noncomputable def w_1368 := gtw (amm_5_126.2.2.2.2.1) rfl
noncomputable def w_1369 := gtw (amm_5_126.2.2.2.2.2.1) rfl
noncomputable def w_1370 := gtw (amm_5_132.1) rfl
noncomputable def w_1371 := gtw (amm_5_132.2.1) rfl
noncomputable def w_1373 := gtw (amm_5_132.2.2.2.1) rfl
noncomputable def w_1374 := gtw (amm_5_132.2.2.2.2.1) rfl
noncomputable def w_1375 := gtw (amm_5_132.2.2.2.2.2.1) rfl
noncomputable def w_1376 := gtw (amm_5_138.1) rfl
noncomputable def w_1377 := gtw (amm_5_138.2.1) rfl
noncomputable def w_1378 := gtw (amm_5_138.2.2.1) rfl
noncomputable def w_1379 := gtw (amm_5_138.2.2.2.1) rfl
noncomputable def w_1380 := gtw (amm_5_138.2.2.2.2.1) rfl
noncomputable def w_1381 := gtw (amm_5_138.2.2.2.2.2.1) rfl
noncomputable def w_1382 := gtw (amm_5_144.1) rfl
noncomputable def w_1383 := gtw (amm_5_144.2.1) rfl
noncomputable def w_1384 := gtw (amm_5_144.2.2.1) rfl
noncomputable def w_1385 := gtw (amm_5_144.2.2.2.1) rfl
noncomputable def w_1386 := gtw (amm_5_144.2.2.2.2.1) rfl
noncomputable def w_1387 := gtw (amm_5_144.2.2.2.2.2.1) rfl
noncomputable def w_1388 := gtw (amm_5_150.1) rfl
noncomputable def w_1389 := gtw (amm_5_150.2.1) rfl
noncomputable def w_1390 := gtw (amm_5_150.2.2.1) rfl
noncomputable def w_1391 := gtw (amm_5_150.2.2.2.1) rfl
noncomputable def w_1392 := gtw (amm_5_150.2.2.2.2.1) rfl
noncomputable def w_1393 := gtw (amm_5_150.2.2.2.2.2.1) rfl
noncomputable def w_1394 := gtw (amm_5_156.1) rfl
noncomputable def w_1395 := gtw (amm_5_156.2.1) rfl
noncomputable def w_1396 := gtw (amm_5_156.2.2.1) rfl
noncomputable def w_1397 := gtw (amm_5_156.2.2.2.1) rfl
noncomputable def w_1398 := gtw (amm_5_156.2.2.2.2.1) rfl
noncomputable def w_1400 := gtw (amm_5_162.1) rfl
noncomputable def w_1401 := gtw (amm_5_162.2.1) rfl
noncomputable def w_1402 := gtw (amm_5_162.2.2.1) rfl
noncomputable def w_1403 := gtw (amm_5_162.2.2.2.1) rfl
noncomputable def w_1404 := gtw (amm_5_162.2.2.2.2.1) rfl
noncomputable def w_1405 := gtw (amm_5_162.2.2.2.2.2.1) rfl
noncomputable def w_1406 := gtw (amm_5_168.1) rfl
noncomputable def w_1407 := gtw (amm_5_168.2.1) rfl
noncomputable def w_1408 := gtw (amm_5_168.2.2.1) rfl
noncomputable def w_1409 := gtw (amm_5_168.2.2.2.1) rfl
noncomputable def w_1410 := gtw (amm_5_168.2.2.2.2.1) rfl
noncomputable def w_1411 := gtw (amm_5_168.2.2.2.2.2.1) rfl
noncomputable def w_1412 := gtw (amm_5_174.1) rfl
noncomputable def w_1413 := gtw (amm_5_174.2.1) rfl
noncomputable def w_1414 := gtw (amm_5_174.2.2.1) rfl
noncomputable def w_1415 := gtw (amm_5_174.2.2.2.1) rfl
noncomputable def w_1416 := gtw (amm_5_174.2.2.2.2.1) rfl
noncomputable def w_1417 := gtw (amm_5_174.2.2.2.2.2.1) rfl
noncomputable def w_1418 := gtw (amm_5_180.1) rfl
noncomputable def w_1419 := gtw (amm_5_180.2.1) rfl
noncomputable def w_1420 := gtw (amm_5_180.2.2.1) rfl
noncomputable def w_1421 := gtw (amm_5_180.2.2.2.1) rfl
noncomputable def w_1422 := gtw (amm_5_180.2.2.2.2.1) rfl
noncomputable def w_1423 := gtw (amm_5_180.2.2.2.2.2.1) rfl
noncomputable def w_1424 := gtw (amm_5_186.1) rfl
noncomputable def w_1425 := gtw (amm_5_186.2.1) rfl
noncomputable def w_1426 := gtw (amm_5_186.2.2.1) rfl
noncomputable def w_1427 := gtw (amm_5_186.2.2.2.1) rfl
noncomputable def w_1428 := gtw (amm_5_186.2.2.2.2.1) rfl
noncomputable def w_1429 := gtw (amm_5_186.2.2.2.2.2.1) rfl
noncomputable def w_1430 := gtw (amm_5_192.1) rfl
noncomputable def w_1431 := gtw (amm_5_192.2.1) rfl
noncomputable def w_1432 := gtw (amm_5_192.2.2.1) rfl
noncomputable def w_1433 := gtw (amm_5_192.2.2.2.1) rfl
noncomputable def w_1434 := gtw (amm_5_192.2.2.2.2.1) rfl
noncomputable def w_1435 := gtw (amm_5_192.2.2.2.2.2.1) rfl
noncomputable def w_1436 := gtw (amm_5_198.1) rfl
noncomputable def w_1437 := gtw (amm_5_198.2.1) rfl
noncomputable def w_1438 := gtw (amm_5_198.2.2.1) rfl
noncomputable def w_1439 := gtw (amm_5_198.2.2.2.1) rfl
noncomputable def w_1440 := gtw (amm_5_198.2.2.2.2.1) rfl
noncomputable def w_1441 := gtw (amm_5_198.2.2.2.2.2.1) rfl
noncomputable def w_1442 := gtw (amm_5_204.1) rfl
noncomputable def w_1443 := gtw (amm_5_204.2.1) rfl
noncomputable def w_1444 := gtw (amm_5_204.2.2.1) rfl
noncomputable def w_1445 := gtw (amm_5_204.2.2.2.1) rfl
noncomputable def w_1446 := gtw (amm_5_204.2.2.2.2.1) rfl
noncomputable def w_1447 := gtw (amm_5_204.2.2.2.2.2.1) rfl
noncomputable def w_1448 := gtw (amm_5_210.1) rfl
noncomputable def w_1449 := gtw (amm_5_210.2.1) rfl
noncomputable def w_1450 := gtw (amm_5_210.2.2.1) rfl
noncomputable def w_1451 := gtw (amm_5_210.2.2.2.1) rfl
noncomputable def w_1452 := gtw (amm_5_210.2.2.2.2.1) rfl
noncomputable def w_1453 := gtw (amm_5_210.2.2.2.2.2.1) rfl
noncomputable def w_1454 := gtw (amm_5_216.1) rfl
noncomputable def w_1455 := gtw (amm_5_216.2.1) rfl
noncomputable def w_1456 := gtw (amm_5_216.2.2.1) rfl
noncomputable def w_1457 := gtw (amm_5_216.2.2.2.1) rfl
noncomputable def w_1458 := gtw (amm_5_216.2.2.2.2.1) rfl
noncomputable def w_1459 := gtw (amm_5_216.2.2.2.2.2.1) rfl
noncomputable def w_1461 := gtw (amm_5_222.2.1) rfl
noncomputable def w_1462 := gtw (amm_5_222.2.2.1) rfl
noncomputable def w_1463 := gtw (amm_5_222.2.2.2.1) rfl
noncomputable def w_1464 := gtw (amm_5_222.2.2.2.2.1) rfl
noncomputable def w_1465 := gtw (amm_5_222.2.2.2.2.2.1) rfl
noncomputable def w_1466 := gtw (amm_5_228.1) rfl
noncomputable def w_1467 := gtw (amm_5_228.2.1) rfl
noncomputable def w_1469 := gtw (amm_5_228.2.2.2.1) rfl
noncomputable def w_1470 := gtw (amm_5_228.2.2.2.2.1) rfl
noncomputable def w_1471 := gtw (amm_5_228.2.2.2.2.2.1) rfl
noncomputable def w_1472 := gtw (amm_5_234.1) rfl
noncomputable def w_1473 := gtw (amm_5_234.2.1) rfl
noncomputable def w_1474 := gtw (amm_5_234.2.2.1) rfl
noncomputable def w_1475 := gtw (amm_5_234.2.2.2.1) rfl
noncomputable def w_1476 := gtw (amm_5_234.2.2.2.2.1) rfl
noncomputable def w_1477 := gtw (amm_5_234.2.2.2.2.2.1) rfl
noncomputable def w_1478 := gtw (amm_6.1) rfl
noncomputable def w_1479 := gtw (amm_6.2.1) rfl
noncomputable def w_1480 := gtw (amm_6.2.2.1) rfl
noncomputable def w_1481 := gtw (amm_6.2.2.2.1) rfl
noncomputable def w_1482 := gtw (amm_6.2.2.2.2.1) rfl
noncomputable def w_1483 := gtw (amm_6.2.2.2.2.2.1) rfl
noncomputable def w_1484 := gtw (amm_6_6.1) rfl
noncomputable def w_1495 := gtw (amm_6_12.2.2.2.2.2.1) rfl
noncomputable def w_1496 := gtw (amm_6_18.1) rfl
noncomputable def w_1497 := gtw (amm_6_18.2.1) rfl
theorem nww {a : Cond} (h : a ∈ tables_1) (g : nwf a = true) : a ∈ NW := List.mem_filter.mpr ⟨by unfold lw_tbl; exact List.mem_append_right _ (List.mem_append_left _ h), g⟩
noncomputable def v_249 := nww (amm_1_6.2.2.2.1) rfl
noncomputable def v_251 := nww (amm_1_6.2.2.2.2.2.1) rfl
noncomputable def v_253 := nww (amm_1_12.2.1) rfl
noncomputable def v_255 := nww (amm_1_12.2.2.2.1) rfl
noncomputable def v_325 := nww (amm_1_84.2.1) rfl
noncomputable def v_343 := nww (amm_1_102.2.1) rfl
noncomputable def v_347 := nww (amm_1_102.2.2.2.2.2.1) rfl
noncomputable def v_348 := nww (amm_1_108.1) rfl
noncomputable def v_378 := nww (amm_1_138.1) rfl
noncomputable def v_711 := nww (amm_2_228.2.2.2.1) rfl
def ALG : List Cond → Prop
  | [] => True
  | a :: l => a ∈ GT ∧ ALG l
theorem ALG.use : ∀ {l : List Cond}, ALG l → ∀ w ∈ l, w ∈ GT
  | [], _, w, hw => by cases hw
  | a :: l, h, w, hw => by
    rcases List.mem_cons.mp hw with rfl | hw
    · exact h.1
    · exact ALG.use h.2 w hw
theorem ws_in0 : ∀ w ∈ u_ws RJ0 TJ0 4, w ∈ GT := ALG.use (l := u_ws RJ0 TJ0 4) ⟨w_943, w_945, w_947, w_949, trivial⟩
theorem ws_in1 : ∀ w ∈ u_ws RJ4 TJ4 4, w ∈ GT := ALG.use (l := u_ws RJ4 TJ4 4) ⟨w_703, w_705, w_707, w_709, trivial⟩
theorem ws_in2 : ∀ w ∈ u_ws RX1 TX1 5, w ∈ GT := ALG.use (l := u_ws RX1 TX1 5) ⟨w_90, w_92, w_94, w_96, w_98, trivial⟩
theorem ws_in3 : ∀ w ∈ u_ws RX2 TX2 9, w ∈ GT := ALG.use (l := u_ws RX2 TX2 9) ⟨w_131, w_133, w_135, w_137, w_139, w_141, w_143, w_145, w_147, trivial⟩
theorem ws_in4 : ∀ w ∈ u_ws RX3 TX3 7, w ∈ GT := ALG.use (l := u_ws RX3 TX3 7) ⟨w_157, w_159, w_161, w_163, w_165, w_167, w_169, trivial⟩
theorem ws_in5 : ∀ w ∈ u_ws RX4 TX4 2, w ∈ GT := ALG.use (l := u_ws RX4 TX4 2) ⟨w_387, w_389, trivial⟩
theorem ws_in6 : ∀ w ∈ u_ws RX5 TX5 14, w ∈ GT := ALG.use (l := u_ws RX5 TX5 14) ⟨w_1127, w_1129, w_1131, w_1133, w_1135, w_1137, w_1139, w_1141, w_1143, w_1145, w_1147, w_1149, w_1151, w_1153, trivial⟩
end
section
/-! 06.heap -/
/-! rules for fields, arrays, statics, new things -/
theorem tysAt {cA : Nat → ClassId} {t : Nat} (h : t < 6) : (tysOf cA)[t]? = some (cA t, aTy t) := by
  match t, h with
  | 0, _ => rfl
  | 1, _ => rfl
  | 2, _ => rfl
  | 3, _ => rfl
  | 4, _ => rfl
  | 5, _ => rfl
def FTy (ci : Nat) : Nat → FieldType := match ci with
  | 0 => tyJ0
  | 1 => tyJ4
  | 2 => tyX1
  | 3 => tyX2
  | 4 => tyX3
  | 5 => tyX4
  | _ => tyX5
theorem cls_ws {ci : Nat} (h : ci < 7) : ∀ w ∈ u_ws (CN ci) (FT ci) (FN ci), w ∈ GT := by
  match ci, h with
  | 0, _ => exact ws_in0
  | 1, _ => exact ws_in1
  | 2, _ => exact ws_in2
  | 3, _ => exact ws_in3
  | 4, _ => exact ws_in4
  | 5, _ => exact ws_in5
  | 6, _ => exact ws_in6
theorem cls_ty {ci : Nat} (h : ci < 7) : ∀ k, k < FN ci → parseFieldDescriptor (FT ci k).2.2.1 = some (FTy ci k) := by
  match ci, h with
  | 0, _ => exact tyJ0_ok
  | 1, _ => exact tyJ4_ok
  | 2, _ => exact tyX1_ok
  | 3, _ => exact tyX2_ok
  | 4, _ => exact tyX3_ok
  | 5, _ => exact tyX4_ok
  | 6, _ => exact tyX5_ok
theorem cls_nm {ci : Nat} (h : ci < 7) : ∀ a, a < FN ci → ∀ b, b < FN ci → a ≠ b → (FT ci a).2.1 ≠ (FT ci b).2.1 := by
  match ci, h with
  | 0, _ => exact nmJ0
  | 1, _ => exact nmJ4
  | 2, _ => exact nmX1
  | 3, _ => exact nmX2
  | 4, _ => exact nmX3
  | 5, _ => exact nmX4
  | 6, _ => exact nmX5
theorem HM.put {G : GD} {A : Nat → Prop} {H0 : Heap} {h : AH} {n : Nat} {H : Heap} {locs : List Loc} {ad : Nat → Nat} (hm : HM G A H0 h n H locs ad) {i : Nat} {e : va_E} {H1 : Heap} {locs1 : List Loc} (h1 : nC ≤ i) (h2 : i < n) (hcl : clE n e)
    (hP : va_P G.1 vwCl ((wsH G ad h n).set (i - nC) (ad i, emE G.2.1 ad e)) H1) (hD : va_D A ((wsH G ad h n).set (i - nC) (ad i, emE G.2.1 ad e))) (hS : va_S A H0 H1 locs1) : HM G A H0 (up h i e) n H1 locs1 ad := by
  rw [wsH_set h1 h2] at hP hD
  refine ⟨hP, hD, hS, hm.2.2.2.1, fun j a b => ?_, fun j a => ?_⟩
  · by_cases q : j = i
    · rw [q, up_s]; exact hcl
    · rw [up_n q]; exact hm.2.2.2.2.1 j a b
  · rw [up_n (by omega)]
    exact hm.2.2.2.2.2 j a
theorem HM.new {G : GD} {A : Nat → Prop} {H0 : Heap} {h : AH} {n : Nat} {H : Heap} {locs : List Loc} {ad : Nat → Nat} (hm : HM G A H0 h n H locs ad) {q : Nat} {e : va_E} {H1 : Heap} {locs1 : List Loc} (hcl : clE n e)
    (hP : va_P G.1 vwCl (wsH G ad h n ++ [(q, emE G.2.1 ad e)]) H1) (hD : va_D A (wsH G ad h n ++ [(q, emE G.2.1 ad e)])) (hS : va_S A H0 H1 locs1) : HM G A H0 (up h n e) (n + 1) H1 locs1 (up ad n q) := by
  rw [wsH_push hm.lt hm.2.2.2.2.1 hcl] at hP hD
  have h0 := hm.lt
  refine ⟨hP, hD, hS, by omega, fun j a b => ?_, fun j a => ?_⟩
  · by_cases z : j = n
    · rw [z, up_s]; exact clE_mono hcl (by omega)
    · rw [up_n z]; exact clE_mono (hm.2.2.2.2.1 j a (by omega)) (by omega)
  · rw [up_n (by omega), up_n (by omega)]
    exact hm.2.2.2.2.2 j a
theorem Ext.new {ad0 ad : Nat → Nat} {n0 n q : Nat} (h : Ext ad0 ad n0 n) : Ext ad0 (up ad n q) n0 (n + 1) := ⟨by have := h.1; omega, fun i hi => by rw [up_n (by have := h.1; omega)]; exact h.2 i hi⟩
theorem LM.new {ad : Nat → Nat} {nL n q : Nat} {lv : List (Nat × Value)} {st : List Value} {ls : Array Slot} (hl : LM ad nL n lv st ls) : LM (up ad n q) nL (n + 1) lv st ls := by
  have e0 : ∀ i, i < n → up ad n q i = ad i := fun i hi => up_n (by omega)
  refine ⟨?_, fun z hz => clV_mono (hl.2.1 z hz) (by omega), fun z hz => clV_mono (hl.2.2 z hz) (by omega)⟩
  have e1 : lv.map (fun z => (z.1, em (up ad n q) z.2)) = lv.map (fun z => (z.1, em ad z.2)) := List.map_congr_left (fun z hz => by rw [em_eq (hl.2.1 z hz) e0])
  rw [e1]
  exact hl.1
theorem em_new {ad : Nat → Nat} {n q : Nat} {st : List Value} (h : ∀ v ∈ st, clV n v) : st.map (em (up ad n q)) = st.map (em ad) := List.map_congr_left (fun z hz => em_eq (h z hz) (fun i hi => up_n (by omega)))
theorem HM.cl {G : GD} {A : Nat → Prop} {H0 : Heap} {h : AH} {n : Nat} {H : Heap} {locs : List Loc} {ad : Nat → Nat} (hm : HM G A H0 h n H locs ad) {i : Nat} (hi : i < n) : clE n (h i) := by
  by_cases q : nC ≤ i
  · exact hm.2.2.2.2.1 i q hi
  · exact clE_mono (hm.2.2.2.2.2 i (by omega)).2.2 hm.lt
section
variable {SR : SRT} {M : MI} {d bc bs pc pc' tgt n : Nat} {lv : List (Nat × Value)} {st : List Value} {h : AH} {Post : ARes → AH → Nat → Prop}
theorem sw_getf {ci k idx i : Nat} {fs : List Value} {v : Value} (hp : pc + 3 = pc') (hdg : decode M.2.1 pc = .ok (.getfield idx, 3)) (hk : k < FN ci) (hw : Cond.fieldLink M.1.cls idx (FT ci k).1 (FT ci k).2.1 (FT ci k).2.2.1 ∈ GT) (hh : h i = .inr (ci, fs)) (hv : fs[k]? = some v)
    (kk : SW SR M d bc bs pc' lv (v :: st) h n Post) : SW SR M d bc bs pc lv (.ref i :: st) h n Post := by
  subst hp
  intro G p l e R s m args below meth c A ad0 n0 Q hc hr he H locs cells slots ls ad hm hl hx hbc hbs
  have hi : i < n := hl.2.2 _ List.mem_cons_self i rfl
  have hcl : clV n v := by
    have h1 := hm.cl hi
    rw [hh] at h1
    exact h1 v (List.mem_of_getElem? hv)
  have hk9 := kk G p l e R s m args below meth c A ad0 n0 Q hc hr he H locs cells slots ls ad hm (hl.stk (clc (cl1 hl.2.2) hcl)) hx hbc hbs
  obtain ⟨hx1, hb1, hr1, hml1, hown1, hts1, hlk1, htb1, hlt1, hin1, hK1, hN1, hSR1, hAO1, hC1, hA1⟩ := id hc
  by_cases q : nC ≤ i
  · have e0 : (wsH G ad h n)[i - nC]? = some (ad i, .inr (ci, fs.map (em ad))) := by
      have h9 := wsH_get (G := G) (ad := ad) (h := h) q hi
      rw [hh] at h9
      exact h9
    have hci : ci < 7 := by
      obtain ⟨r, hr9, -⟩ := hm.1 _ _ e0
      exact vwCl_lt hr9
    exact va_get (v := em ad v) hx1 hb1 hts1 (cls_ws hci) hown1 hK1 hm.1 _ e0 (vwCl_at hci) k hk (hts1 _ hw) (fun _ z => z) (by rw [List.getElem?_map, hv]; rfl) hdg hk9
  · have q1 : i < nC := by omega
    obtain ⟨c1, c2, -⟩ := hm.2.2.2.2.2 i q1
    obtain ⟨-, c4⟩ := hC1.1 i ci fs q1 (by rw [← c1]; exact hh)
    have c5 := c4 k v hv
    have e3 : em G.2.2.1 v = em ad v := by
      refine (em_eq (n := nC) ?_ (fun j hj => ((hm.2.2.2.2.2 j hj).2.1).symm))
      have h1 := (hm.2.2.2.2.2 i q1).2.2
      rw [hh] at h1
      exact h1 v (List.mem_of_getElem? hv)
    rw [e3, ← c2] at c5
    exact vk_getf hx1 hb1 c5 hm.2.2.1 hown1 (hts1 _ hw) (fun _ z => z) hdg hk9
theorem em_narrow {ad : Nat → Nat} {ty : FieldType} {v : Value} (hn : narrow ty v = v) : narrow ty (em ad v) = em ad v := by
  cases v <;> first | exact hn | (cases ty <;> rfl)
theorem em_fits {ad : Nat → Nat} {ty : FieldType} {v : Value} (hn : fits ty v = true) : fits ty (em ad v) = true := by
  cases v <;> first | exact hn | (cases ty <;> first | exact hn | rfl)
theorem clE_set {n ci k : Nat} {fs : List Value} {v : Value} (h : clE n (.inr (ci, fs))) (g : clV n v) : clE n (.inr (ci, fs.set k v)) := by
  intro w hw
  rcases List.mem_or_eq_of_mem_set hw with h1 | h1
  · exact h w h1
  · rw [h1]; exact g
theorem sw_putf {ci k idx i : Nat} {fs : List Value} {v : Value} (hp : pc + 3 = pc') (hdg : decode M.2.1 pc = .ok (.putfield idx, 3)) (hci : ci < 7) (hk : k < FN ci) (hw : Cond.fieldLink M.1.cls idx (FT ci k).1 (FT ci k).2.1 (FT ci k).2.2.1 ∈ GT) (hfin : (FT ci k).2.2.2 = false) (hh : h i = .inr (ci, fs)) (hi0 : nC ≤ i) (hlen : k < fs.length) (hn : narrow (FTy ci k) v = v) (hfit : fits (FTy ci k) v = true)
    (kk : SW SR M d bc bs pc' lv st (up h i (.inr (ci, fs.set k v))) n Post) : SW SR M d bc bs pc lv (v :: .ref i :: st) h n Post := by
  subst hp
  intro G p l e R s m args below meth c A ad0 n0 Q hc hr he H locs cells slots ls ad hm hl hx hbc hbs
  have hi : i < n := hl.2.2 _ (List.mem_cons_of_mem _ List.mem_cons_self) i rfl
  have hcl : clE n (.inr (ci, fs.set k v)) := clE_set (by have h1 := hm.cl hi; rw [hh] at h1; exact h1) (hl.2.2 _ List.mem_cons_self)
  obtain ⟨hx1, hb1, hr1, hml1, hown1, hts1, hlk1, htb1, hlt1, hin1, hK1, hN1, hSR1, hAO1, hC1, hA1⟩ := id hc
  have e0 : (wsH G ad h n)[i - nC]? = some (ad i, .inr (ci, fs.map (em ad))) := by
    have h9 := wsH_get (G := G) (ad := ad) (h := h) hi0 hi
    rw [hh] at h9
    exact h9
  refine va_put (v := em ad v) hx1 hb1 hts1 (cls_ws hci) (FTy ci) (cls_ty hci) (cls_nm hci) hown1 hK1 hm.1 hm.2.1 hm.2.2.1 _ e0 (vwCl_at hci) k hk (hts1 _ hw) (fun _ z => z) hfin (cls_ty hci k hk) (em_narrow hn) (em_fits hfit) (by rw [List.length_map]; exact hlen) hdg (fun H1 locs1 hP hD hS => ?_)
  rw [← List.map_set] at hP hD
  exact kk G p l e R s m args below meth c A ad0 n0 Q hc hr he H1 locs1 cells slots ls ad (hm.put hi0 hi hcl hP hD hS) (hl.stk (cl2 hl.2.2)) hx hbc hbs
theorem sw_putfF {ci k idx i : Nat} {fs : List Value} {v : Value} (hp : pc + 3 = pc') (hdg : decode M.2.1 pc = .ok (.putfield idx, 3)) (hci : ci < 7) (hk : k < FN ci) (hw : Cond.fieldLink M.1.cls idx (FT ci k).1 (FT ci k).2.1 (FT ci k).2.2.1 ∈ GT) (hfin : (FT ci k).2.2.2 = true) (hini : M.1.name = "<init>") (hdecl : (FT ci k).1 = M.1.cls) (hh : h i = .inr (ci, fs)) (hi0 : nC ≤ i) (hlen : k < fs.length) (hn : narrow (FTy ci k) v = v) (hfit : fits (FTy ci k) v = true)
    (kk : SW SR M d bc bs pc' lv st (up h i (.inr (ci, fs.set k v))) n Post) : SW SR M d bc bs pc lv (v :: .ref i :: st) h n Post := by
  subst hp
  intro G p l e R s m args below meth c A ad0 n0 Q hc hr he H locs cells slots ls ad hm hl hx hbc hbs
  have hi : i < n := hl.2.2 _ (List.mem_cons_of_mem _ List.mem_cons_self) i rfl
  have hcl : clE n (.inr (ci, fs.set k v)) := clE_set (by have h1 := hm.cl hi; rw [hh] at h1; exact h1) (hl.2.2 _ List.mem_cons_self)
  obtain ⟨hx1, hb1, hr1, hml1, hown1, hts1, hlk1, htb1, hlt1, hin1, hK1, hN1, hSR1, hAO1, hC1, hA1⟩ := id hc
  have e0 : (wsH G ad h n)[i - nC]? = some (ad i, .inr (ci, fs.map (em ad))) := by
    have h9 := wsH_get (G := G) (ad := ad) (h := h) hi0 hi
    rw [hh] at h9
    exact h9
  refine va_putF (v := em ad v) hx1 hb1 hts1 (cls_ws hci) (FTy ci) (cls_ty hci) (cls_nm hci) hown1 hK1 hm.1 hm.2.1 hm.2.2.1 _ e0 (vwCl_at hci) k hk (hts1 _ hw) (fun _ z => z) hfin (hin1 hini) hdecl (cls_ty hci k hk) (em_narrow hn) (em_fits hfit) (by rw [List.length_map]; exact hlen) hdg (fun H1 locs1 hP hD hS => ?_)
  rw [← List.map_set] at hP hD
  exact kk G p l e R s m args below meth c A ad0 n0 Q hc hr he H1 locs1 cells slots ls ad (hm.put hi0 hi hcl hP hD hS) (hl.stk (cl2 hl.2.2)) hx hbc hbs
/-- nest mates' fields -/
theorem sw_getN {ci k idx i : Nat} {fs : List Value} {v : Value} {host : String} (hp : pc + 3 = pc') (hdg : decode M.2.1 pc = .ok (.getfield idx, 3)) (hk : k < FN ci) (hw : Cond.fieldLinkNest M.1.cls idx (FT ci k).1 (FT ci k).2.1 (FT ci k).2.2.1 host ∈ NW) (hh : h i = .inr (ci, fs)) (hi0 : nC ≤ i) (hv : fs[k]? = some v)
    (kk : SW SR M d bc bs pc' lv (v :: st) h n Post) : SW SR M d bc bs pc lv (.ref i :: st) h n Post := by
  subst hp
  intro G p l e R s m args below meth c A ad0 n0 Q hc hr he H locs cells slots ls ad hm hl hx hbc hbs
  have hi : i < n := hl.2.2 _ List.mem_cons_self i rfl
  have hcl : clV n v := by
    have h1 := hm.cl hi
    rw [hh] at h1
    exact h1 v (List.mem_of_getElem? hv)
  have hk9 := kk G p l e R s m args below meth c A ad0 n0 Q hc hr he H locs cells slots ls ad hm (hl.stk (clc (cl1 hl.2.2) hcl)) hx hbc hbs
  obtain ⟨hx1, hb1, hr1, hml1, hown1, hts1, hlk1, htb1, hlt1, hin1, hK1, hN1, hSR1, hAO1, hC1, hA1⟩ := id hc
  have e0 : (wsH G ad h n)[i - nC]? = some (ad i, .inr (ci, fs.map (em ad))) := by
    have h9 := wsH_get (G := G) (ad := ad) (h := h) hi0 hi
    rw [hh] at h9
    exact h9
  have hci : ci < 7 := by
    obtain ⟨r, hr9, -⟩ := hm.1 _ _ e0
    exact vwCl_lt hr9
  exact va_getN (v := em ad v) hx1 hb1 hts1 (cls_ws hci) hown1 hK1 hm.1 _ e0 (vwCl_at hci) k hk (va_Nw.use rfl (hN1 _ hw)) (fun _ z => z) (by rw [List.getElem?_map, hv]; rfl) hdg hk9
theorem sw_putN {ci k idx i : Nat} {fs : List Value} {v : Value} {host : String} (hp : pc + 3 = pc') (hdg : decode M.2.1 pc = .ok (.putfield idx, 3)) (hci : ci < 7) (hk : k < FN ci) (hw : Cond.fieldLinkNest M.1.cls idx (FT ci k).1 (FT ci k).2.1 (FT ci k).2.2.1 host ∈ NW) (hfin : (FT ci k).2.2.2 = false) (hh : h i = .inr (ci, fs)) (hi0 : nC ≤ i) (hlen : k < fs.length) (hn : narrow (FTy ci k) v = v) (hfit : fits (FTy ci k) v = true)
    (kk : SW SR M d bc bs pc' lv st (up h i (.inr (ci, fs.set k v))) n Post) : SW SR M d bc bs pc lv (v :: .ref i :: st) h n Post := by
  subst hp
  intro G p l e R s m args below meth c A ad0 n0 Q hc hr he H locs cells slots ls ad hm hl hx hbc hbs
  have hi : i < n := hl.2.2 _ (List.mem_cons_of_mem _ List.mem_cons_self) i rfl
  have hcl : clE n (.inr (ci, fs.set k v)) := clE_set (by have h1 := hm.cl hi; rw [hh] at h1; exact h1) (hl.2.2 _ List.mem_cons_self)
  obtain ⟨hx1, hb1, hr1, hml1, hown1, hts1, hlk1, htb1, hlt1, hin1, hK1, hN1, hSR1, hAO1, hC1, hA1⟩ := id hc
  have e0 : (wsH G ad h n)[i - nC]? = some (ad i, .inr (ci, fs.map (em ad))) := by
    have h9 := wsH_get (G := G) (ad := ad) (h := h) hi0 hi
    rw [hh] at h9
    exact h9
  refine va_putN (v := em ad v) hx1 hb1 hts1 (cls_ws hci) (FTy ci) (cls_ty hci) (cls_nm hci) hown1 hK1 hm.1 hm.2.1 hm.2.2.1 _ e0 (vwCl_at hci) k hk (va_Nw.use rfl (hN1 _ hw)) (fun _ z => z) hfin (cls_ty hci k hk) (em_narrow hn) (em_fits hfit) (by rw [List.length_map]; exact hlen) hdg (fun H1 locs1 hP hD hS => ?_)
  rw [← List.map_set] at hP hD
  exact kk G p l e R s m args below meth c A ad0 n0 Q hc hr he H1 locs1 cells slots ls ad (hm.put hi0 hi hcl hP hD hS) (hl.stk (cl2 hl.2.2)) hx hbc hbs
theorem ST_cl : ∀ q ∈ ST, clV nC q.2.2.2 := by
  intro q hq
  simp only [ST, List.mem_cons, List.not_mem_nil, or_false] at hq
  rcases hq with rfl | rfl | rfl | rfl | rfl | rfl | rfl | rfl <;> intro i hi <;> cases hi <;> decide
theorem sw_gets {idx : Nat} {C nm ds : String} {v : Value} (hp : pc + 3 = pc') (hdg : decode M.2.1 pc = .ok (.getstatic idx, 3)) (hq : (C, nm, ds, v) ∈ ST) (hw : Cond.fieldLink M.1.cls idx C nm ds ∈ GT)
    (kk : SW SR M d bc bs pc' lv (v :: st) h n Post) : SW SR M d bc bs pc lv st h n Post := by
  subst hp
  intro G p l e R s m args below meth c A ad0 n0 Q hc hr he H locs cells slots ls ad hm hl hx hbc hbs
  have hk9 := kk G p l e R s m args below meth c A ad0 n0 Q hc hr he H locs cells slots ls ad hm (hl.stk (clc hl.2.2 (clV_mono (ST_cl _ hq) hm.lt))) hx hbc hbs
  obtain ⟨hx1, hb1, hr1, hml1, hown1, hts1, hlk1, htb1, hlt1, hin1, hK1, hN1, hSR1, hAO1, hC1, hA1⟩ := id hc
  have e3 : em G.2.2.1 v = em ad v := em_eq (n := nC) (ST_cl _ hq) (fun j hj => ((hm.2.2.2.2.2 j hj).2.1).symm)
  have c5 := hC1.2.2.1 _ hq
  dsimp only at c5
  rw [e3] at c5
  exact va_gets hx1 hb1 c5 hm.2.2.1 hown1 (hts1 _ hw) (fun _ z => z) hdg hk9
end
end
section
/-! 07.arrays -/
/-! rules for arrays and new things -/
theorem clV_new {n : Nat} : clV (n + 1) (.ref n) := fun i hi => by
  cases hi
  exact Nat.lt_succ_self _
section
variable {SR : SRT} {M : MI} {d bc bs pc pc' tgt n : Nat} {lv : List (Nat × Value)} {st : List Value} {h : AH} {Post : ARes → AH → Nat → Prop}
theorem sw_iald {a j len : Nat} {f : Nat → Int32} {x : Int32} (hp : pc + 1 = pc') (hdg : decode M.2.1 pc = .ok (.iaload, 1)) (hh : h a = .inl (0, len, .inl f)) (hx9 : x = nI j) (hj : j < len) (hlen : len < 2 ^ 31)
    (kk : SW SR M d bc bs pc' lv (.int (f j) :: st) h n Post) : SW SR M d bc bs pc lv (.int x :: .ref a :: st) h n Post := by
  subst hp
  intro G p l e R s m args below meth c A ad0 n0 Q hc hr he H locs cells slots ls ad hm hl hx hbc hbs
  have hi : a < n := hl.2.2 _ (List.mem_cons_of_mem _ List.mem_cons_self) a rfl
  have hk9 := kk G p l e R s m args below meth c A ad0 n0 Q hc hr he H locs cells slots ls ad hm (hl.stk (clc (cl2 hl.2.2) clV_int)) hx hbc hbs
  obtain ⟨hx1, hb1, hr1, hml1, hown1, hts1, hlk1, htb1, hlt1, hin1, hK1, hN1, hSR1, hAO1, hC1, hA1⟩ := id hc
  subst hx9
  have hin9 : vp_in (nI j) len := vp_in_nI hj hlen
  have ec : (nI j).toNatClampNeg = j := nI_clamp (by omega)
  by_cases q : nC ≤ a
  · have e0 : (wsH G ad h n)[a - nC]? = some (ad a, .inl (G.2.1 0, len, .inl f)) := by
      have h9 := wsH_get (G := G) (ad := ad) (h := h) q hi
      rw [hh] at h9
      exact h9
    refine va_iald hx1 hb1 hK1 hm.1 _ 0 e0 (tysAt (by decide)) hin9 hdg ?_
    rw [ec]
    exact hk9
  · have q1 : a < nC := by omega
    obtain ⟨c1, c2, -⟩ := hm.2.2.2.2.2 a q1
    have c5 := hC1.2.1 a 0 len f q1 (by rw [← c1]; exact hh) (by decide)
    rw [← c2] at c5
    exact va_ti (v := .int (f j)) hx1 hb1 c5 hm.2.2.1 hin9 (by rw [ec]) hdg hk9
theorem sw_bald {a j len : Nat} {f : Nat → Int32} {x : Int32} (hp : pc + 1 = pc') (hdg : decode M.2.1 pc = .ok (.baload, 1)) (hh : h a = .inl (2, len, .inl f)) (hx9 : x = nI j) (hj : j < len) (hlen : len < 2 ^ 31)
    (kk : SW SR M d bc bs pc' lv (.int (f j) :: st) h n Post) : SW SR M d bc bs pc lv (.int x :: .ref a :: st) h n Post := by
  subst hp
  intro G p l e R s m args below meth c A ad0 n0 Q hc hr he H locs cells slots ls ad hm hl hx hbc hbs
  have hi : a < n := hl.2.2 _ (List.mem_cons_of_mem _ List.mem_cons_self) a rfl
  have hk9 := kk G p l e R s m args below meth c A ad0 n0 Q hc hr he H locs cells slots ls ad hm (hl.stk (clc (cl2 hl.2.2) clV_int)) hx hbc hbs
  obtain ⟨hx1, hb1, hr1, hml1, hown1, hts1, hlk1, htb1, hlt1, hin1, hK1, hN1, hSR1, hAO1, hC1, hA1⟩ := id hc
  subst hx9
  have hin9 : vp_in (nI j) len := vp_in_nI hj hlen
  have ec : (nI j).toNatClampNeg = j := nI_clamp (by omega)
  by_cases q : nC ≤ a
  · have e0 : (wsH G ad h n)[a - nC]? = some (ad a, .inl (G.2.1 2, len, .inl f)) := by
      have h9 := wsH_get (G := G) (ad := ad) (h := h) q hi
      rw [hh] at h9
      exact h9
    refine va_bald hx1 hb1 hK1 hm.1 _ 2 e0 (tysAt (by decide)) hin9 hdg ?_
    rw [ec]
    exact hk9
  · have q1 : a < nC := by omega
    obtain ⟨c1, c2, -⟩ := hm.2.2.2.2.2 a q1
    have c5 := hC1.2.1 a 2 len f q1 (by rw [← c1]; exact hh) (by decide)
    rw [← c2] at c5
    exact va_tb (v := .int (f j)) hx1 hb1 c5 hm.2.2.1 hin9 (by rw [ec]) hdg hk9
theorem sw_zald {a j len : Nat} {f : Nat → Int32} {x : Int32} (hp : pc + 1 = pc') (hdg : decode M.2.1 pc = .ok (.baload, 1)) (hh : h a = .inl (1, len, .inl f)) (hi0 : nC ≤ a) (hx9 : x = nI j) (hj : j < len) (hlen : len < 2 ^ 31)
    (kk : SW SR M d bc bs pc' lv (.int (f j) :: st) h n Post) : SW SR M d bc bs pc lv (.int x :: .ref a :: st) h n Post := by
  subst hp
  intro G p l e R s m args below meth c A ad0 n0 Q hc hr he H locs cells slots ls ad hm hl hx hbc hbs
  have hi : a < n := hl.2.2 _ (List.mem_cons_of_mem _ List.mem_cons_self) a rfl
  have hk9 := kk G p l e R s m args below meth c A ad0 n0 Q hc hr he H locs cells slots ls ad hm (hl.stk (clc (cl2 hl.2.2) clV_int)) hx hbc hbs
  obtain ⟨hx1, hb1, hr1, hml1, hown1, hts1, hlk1, htb1, hlt1, hin1, hK1, hN1, hSR1, hAO1, hC1, hA1⟩ := id hc
  subst hx9
  have ec : (nI j).toNatClampNeg = j := nI_clamp (by omega)
  have e0 : (wsH G ad h n)[a - nC]? = some (ad a, .inl (G.2.1 1, len, .inl f)) := by
    have h9 := wsH_get (G := G) (ad := ad) (h := h) hi0 hi
    rw [hh] at h9
    exact h9
  refine va_zald hx1 hb1 hK1 hm.1 _ 1 e0 (tysAt (by decide)) (vp_in_nI hj hlen) hdg ?_
  rw [ec]
  exact hk9
theorem sw_alen {a t len : Nat} {z : (Nat → Int32) ⊕ (Nat → Int64) ⊕ (Nat → UInt32) ⊕ (Nat → UInt64) ⊕ (Nat → Option Nat)} (hp : pc + 1 = pc') (hdg : decode M.2.1 pc = .ok (.arraylength, 1)) (hh : h a = .inl (t, len, z)) (ht : t < 6) (hz : nC ≤ a ∨ (t < 3 ∧ ∃ f, z = .inl f))
    (kk : SW SR M d bc bs pc' lv (.int (nI len) :: st) h n Post) : SW SR M d bc bs pc lv (.ref a :: st) h n Post := by
  subst hp
  intro G p l e R s m args below meth c A ad0 n0 Q hc hr he H locs cells slots ls ad hm hl hx hbc hbs
  have hi : a < n := hl.2.2 _ List.mem_cons_self a rfl
  have hk9 := kk G p l e R s m args below meth c A ad0 n0 Q hc hr he H locs cells slots ls ad hm (hl.stk (clc (cl1 hl.2.2) clV_int)) hx hbc hbs
  obtain ⟨hx1, hb1, hr1, hml1, hown1, hts1, hlk1, htb1, hlt1, hin1, hK1, hN1, hSR1, hAO1, hC1, hA1⟩ := id hc
  by_cases q : nC ≤ a
  · have h9 := wsH_get (G := G) (ad := ad) (h := h) q hi
    rw [hh] at h9
    obtain f | f | f | f | f := z
    · exact va_alen hx1 hb1 hK1 hm.1 _ t h9 (tysAt ht) rfl hdg hk9
    · exact va_alen hx1 hb1 hK1 hm.1 _ t h9 (tysAt ht) rfl hdg hk9
    · exact va_alen hx1 hb1 hK1 hm.1 _ t h9 (tysAt ht) rfl hdg hk9
    · exact va_alen hx1 hb1 hK1 hm.1 _ t h9 (tysAt ht) rfl hdg hk9
    · exact va_alen hx1 hb1 hK1 hm.1 _ t h9 (tysAt ht) rfl hdg hk9
  · have q1 : a < nC := by omega
    obtain ⟨h3, f, rfl⟩ := hz.resolve_left q
    obtain ⟨c1, c2, -⟩ := hm.2.2.2.2.2 a q1
    have c5 := hC1.2.1 a t len f q1 (by rw [← c1]; exact hh) h3
    rw [← c2] at c5
    exact va_tlen hx1 hb1 c5 hm.2.2.1 rfl hdg hk9
theorem sw_iast {a j len : Nat} {f : Nat → Int32} {x y : Int32} (hp : pc + 1 = pc') (hdg : decode M.2.1 pc = .ok (.iastore, 1)) (hh : h a = .inl (0, len, .inl f)) (hi0 : nC ≤ a) (hx9 : x = nI j) (hj : j < len) (hlen : len < 2 ^ 31)
    (kk : SW SR M d bc bs pc' lv st (up h a (.inl (0, len, .inl (up f j y)))) n Post) : SW SR M d bc bs pc lv (.int y :: .int x :: .ref a :: st) h n Post := by
  subst hp
  intro G p l e R s m args below meth c A ad0 n0 Q hc hr he H locs cells slots ls ad hm hl hx hbc hbs
  have hi : a < n := hl.2.2 _ (List.mem_cons_of_mem _ (List.mem_cons_of_mem _ List.mem_cons_self)) a rfl
  obtain ⟨hx1, hb1, hr1, hml1, hown1, hts1, hlk1, htb1, hlt1, hin1, hK1, hN1, hSR1, hAO1, hC1, hA1⟩ := id hc
  subst hx9
  have ec : (nI j).toNatClampNeg = j := nI_clamp (by omega)
  have e0 : (wsH G ad h n)[a - nC]? = some (ad a, .inl (G.2.1 0, len, .inl f)) := by
    have h9 := wsH_get (G := G) (ad := ad) (h := h) hi0 hi
    rw [hh] at h9
    exact h9
  refine va_iast hx1 hb1 hK1 hm.1 hm.2.1 hm.2.2.1 _ 0 e0 (tysAt (by decide)) (vp_in_nI hj hlen) hdg (fun H1 locs1 hP hD hS => ?_)
  rw [ec] at hP hD
  exact kk G p l e R s m args below meth c A ad0 n0 Q hc hr he H1 locs1 cells slots ls ad (hm.put (e := .inl (0, len, .inl (up f j y))) hi0 hi trivial hP hD hS) (hl.stk (cl1 (cl2 hl.2.2))) hx hbc hbs
theorem sw_bast {a j len : Nat} {f : Nat → Int32} {x y : Int32} (hp : pc + 1 = pc') (hdg : decode M.2.1 pc = .ok (.bastore, 1)) (hh : h a = .inl (2, len, .inl f)) (hi0 : nC ≤ a) (hx9 : x = nI j) (hj : j < len) (hlen : len < 2 ^ 31)
    (kk : SW SR M d bc bs pc' lv st (up h a (.inl (2, len, .inl (up f j (vp_nar .byte y))))) n Post) : SW SR M d bc bs pc lv (.int y :: .int x :: .ref a :: st) h n Post := by
  subst hp
  intro G p l e R s m args below meth c A ad0 n0 Q hc hr he H locs cells slots ls ad hm hl hx hbc hbs
  have hi : a < n := hl.2.2 _ (List.mem_cons_of_mem _ (List.mem_cons_of_mem _ List.mem_cons_self)) a rfl
  obtain ⟨hx1, hb1, hr1, hml1, hown1, hts1, hlk1, htb1, hlt1, hin1, hK1, hN1, hSR1, hAO1, hC1, hA1⟩ := id hc
  subst hx9
  have ec : (nI j).toNatClampNeg = j := nI_clamp (by omega)
  have e0 : (wsH G ad h n)[a - nC]? = some (ad a, .inl (G.2.1 2, len, .inl f)) := by
    have h9 := wsH_get (G := G) (ad := ad) (h := h) hi0 hi
    rw [hh] at h9
    exact h9
  refine va_bast hx1 hb1 hK1 hm.1 hm.2.1 hm.2.2.1 _ 2 e0 (tysAt (by decide)) (vp_in_nI hj hlen) hdg (fun H1 locs1 hP hD hS => ?_)
  rw [ec] at hP hD
  exact kk G p l e R s m args below meth c A ad0 n0 Q hc hr he H1 locs1 cells slots ls ad (hm.put (e := .inl (2, len, .inl (up f j (vp_nar .byte y)))) hi0 hi trivial hP hD hS) (hl.stk (cl1 (cl2 hl.2.2))) hx hbc hbs
theorem sw_zast {a j len : Nat} {f : Nat → Int32} {x y : Int32} (hp : pc + 1 = pc') (hdg : decode M.2.1 pc = .ok (.bastore, 1)) (hh : h a = .inl (1, len, .inl f)) (hi0 : nC ≤ a) (hx9 : x = nI j) (hj : j < len) (hlen : len < 2 ^ 31)
    (kk : SW SR M d bc bs pc' lv st (up h a (.inl (1, len, .inl (up f j (vp_nar .boolean y))))) n Post) : SW SR M d bc bs pc lv (.int y :: .int x :: .ref a :: st) h n Post := by
  subst hp
  intro G p l e R s m args below meth c A ad0 n0 Q hc hr he H locs cells slots ls ad hm hl hx hbc hbs
  have hi : a < n := hl.2.2 _ (List.mem_cons_of_mem _ (List.mem_cons_of_mem _ List.mem_cons_self)) a rfl
  obtain ⟨hx1, hb1, hr1, hml1, hown1, hts1, hlk1, htb1, hlt1, hin1, hK1, hN1, hSR1, hAO1, hC1, hA1⟩ := id hc
  subst hx9
  have ec : (nI j).toNatClampNeg = j := nI_clamp (by omega)
  have e0 : (wsH G ad h n)[a - nC]? = some (ad a, .inl (G.2.1 1, len, .inl f)) := by
    have h9 := wsH_get (G := G) (ad := ad) (h := h) hi0 hi
    rw [hh] at h9
    exact h9
  refine va_zast hx1 hb1 hK1 hm.1 hm.2.1 hm.2.2.1 _ 1 e0 (tysAt (by decide)) (vp_in_nI hj hlen) hdg (fun H1 locs1 hP hD hS => ?_)
  rw [ec] at hP hD
  exact kk G p l e R s m args below meth c A ad0 n0 Q hc hr he H1 locs1 cells slots ls ad (hm.put (e := .inl (1, len, .inl (up f j (vp_nar .boolean y)))) hi0 hi trivial hP hD hS) (hl.stk (cl1 (cl2 hl.2.2))) hx hbc hbs
/-- a place of an array of references: not null -/
theorem sw_aald {a j len t b : Nat} {g : Nat → Option Nat} {x : Int32} (hp : pc + 1 = pc') (hdg : decode M.2.1 pc = .ok (.aaload, 1)) (hh : h a = .inl (t, len, .inr (.inr (.inr (.inr g))))) (ht : 3 ≤ t ∧ t < 6) (hi0 : nC ≤ a) (hx9 : x = nI j) (hj : j < len) (hlen : len < 2 ^ 31) (hg : g j = some b)
    (kk : SW SR M d bc bs pc' lv (.ref b :: st) h n Post) : SW SR M d bc bs pc lv (.int x :: .ref a :: st) h n Post := by
  subst hp
  intro G p l e R s m args below meth c A ad0 n0 Q hc hr he H locs cells slots ls ad hm hl hx hbc hbs
  have hi : a < n := hl.2.2 _ (List.mem_cons_of_mem _ List.mem_cons_self) a rfl
  have hcl : clV n (.ref b) := by
    have h1 := hm.cl hi
    rw [hh] at h1
    intro i hi9
    cases hi9
    exact h1 j b hg
  have hk9 := kk G p l e R s m args below meth c A ad0 n0 Q hc hr he H locs cells slots ls ad hm (hl.stk (clc (cl2 hl.2.2) hcl)) hx hbc hbs
  obtain ⟨hx1, hb1, hr1, hml1, hown1, hts1, hlk1, htb1, hlt1, hin1, hK1, hN1, hSR1, hAO1, hC1, hA1⟩ := id hc
  subst hx9
  have ec : (nI j).toNatClampNeg = j := nI_clamp (by omega)
  have hin9 : vp_in (nI j) len := vp_in_nI hj hlen
  have e0 : (wsH G ad h n)[a - nC]? = some (ad a, .inl (G.2.1 t, len, .inr (.inr (.inr (.inr (fun j => (g j).map ad)))))) := by
    have h9 := wsH_get (G := G) (ad := ad) (h := h) hi0 hi
    rw [hh] at h9
    exact h9
  have hty : (aTy t).isReference = true := by
    obtain ⟨h3, h4⟩ := ht
    match t, h3, h4 with
    | 3, _, _ => rfl
    | 4, _, _ => rfl
    | 5, _, _ => rfl
  have hlt9 : (nI j).toNatClampNeg < len := by rw [ec]; exact hj
  exact W.aald (v := .ref (ad b)) (ty := aTy t) hx1 hb1 (hm.1 _ _ e0) ((hK1.2 t _ (tysAt ht.2)).1 len (fun j => va_rf ((g j).map ad))) hty (fun q => by cases q) (by show ¬ (nI j < 0 ∨ (arrV _ _ _).slots.size ≤ _); rw [arrV_size]; exact hin9) (by show (arrV _ _ _).slots[_]? = _; rw [arrV_read _ _ hlt9, ec]; show some (va_rf ((g j).map ad)) = _; rw [hg]; rfl) rfl rfl hdg hk9
theorem sw_aast {a j len t b ci : Nat} {g : Nat → Option Nat} {fs : List Value} {x : Int32} (hp : pc + 1 = pc') (hdg : decode M.2.1 pc = .ok (.aastore, 1)) (hh : h a = .inl (t, len, .inr (.inr (.inr (.inr g))))) (ht : t = 3 ∧ ci = 2 ∨ t = 4 ∧ ci = 3) (hi0 : nC ≤ a) (hx9 : x = nI j) (hj : j < len) (hlen : len < 2 ^ 31) (hb : h b = .inr (ci, fs)) (hb0 : nC ≤ b)
    (kk : SW SR M d bc bs pc' lv st (up h a (.inl (t, len, .inr (.inr (.inr (.inr (up g j (some b)))))))) n Post) : SW SR M d bc bs pc lv (.ref b :: .int x :: .ref a :: st) h n Post := by
  subst hp
  intro G p l e R s m args below meth c A ad0 n0 Q hc hr he H locs cells slots ls ad hm hl hx hbc hbs
  have hi : a < n := hl.2.2 _ (List.mem_cons_of_mem _ (List.mem_cons_of_mem _ List.mem_cons_self)) a rfl
  have hbn : b < n := hl.2.2 _ List.mem_cons_self b rfl
  obtain ⟨hx1, hb1, hr1, hml1, hown1, hts1, hlk1, htb1, hlt1, hin1, hK1, hN1, hSR1, hAO1, hC1, hA1⟩ := id hc
  subst hx9
  have ec : (nI j).toNatClampNeg = j := nI_clamp (by omega)
  have e0 : (wsH G ad h n)[a - nC]? = some (ad a, .inl (G.2.1 t, len, .inr (.inr (.inr (.inr (fun j => (g j).map ad)))))) := by
    have h9 := wsH_get (G := G) (ad := ad) (h := h) hi0 hi
    rw [hh] at h9
    exact h9
  have e1 : (wsH G ad h n)[b - nC]? = some (ad b, .inr (ci, fs.map (em ad))) := by
    have h9 := wsH_get (G := G) (ad := ad) (h := h) hb0 hbn
    rw [hb] at h9
    exact h9
  have e2 : va_up (fun j => (g j).map ad) j (some (ad b)) = fun i => (up g j (some b) i).map ad := by
    funext i
    by_cases q : i = j
    · subst q; rw [up_s]; exact if_pos rfl
    · rw [up_n q]; exact if_neg q
  have hcl : clE n (.inl (t, len, .inr (.inr (.inr (.inr (up g j (some b))))))) := by
    have h1 := hm.cl hi
    rw [hh] at h1
    intro i z hz
    by_cases q : i = j
    · subst q; rw [up_s] at hz; cases hz; exact hbn
    · rw [up_n q] at hz; exact h1 i z hz
  rcases ht with ⟨rfl, rfl⟩ | ⟨rfl, rfl⟩
  · refine va_astq (r := (RX1, TX1, 5)) hx1 hb1 hK1 hm.1 hm.2.1 hm.2.2.1 _ 3 _ 2 e0 (tysAt (by decide)) e1 rfl (vp_in_nI hj hlen) hdg (fun H1 locs1 hP hD hS => ?_)
    rw [ec, e2] at hP hD
    exact kk G p l e R s m args below meth c A ad0 n0 Q hc hr he H1 locs1 cells slots ls ad (hm.put (e := .inl (3, len, .inr (.inr (.inr (.inr (up g j (some b))))))) hi0 hi hcl hP hD hS) (hl.stk (cl1 (cl2 hl.2.2))) hx hbc hbs
  · refine va_astq (r := (RX2, TX2, 9)) hx1 hb1 hK1 hm.1 hm.2.1 hm.2.2.1 _ 4 _ 3 e0 (tysAt (by decide)) e1 rfl (vp_in_nI hj hlen) hdg (fun H1 locs1 hP hD hS => ?_)
    rw [ec, e2] at hP hD
    exact kk G p l e R s m args below meth c A ad0 n0 Q hc hr he H1 locs1 cells slots ls ad (hm.put (e := .inl (4, len, .inr (.inr (.inr (.inr (up g j (some b))))))) hi0 hi hcl hP hD hS) (hl.stk (cl1 (cl2 hl.2.2))) hx hbc hbs
/-- the default values of a class's fields -/
def dfs (ci : Nat) : List Value := (List.range (FN ci)).map (fun k => defaultValue (FTy ci k))
theorem dfs_ok {ci : Nat} : ∀ k, k < FN ci → defaultValue (FTy ci k) = vp_V (dfs ci) k := by
  intro k hk
  simp [vp_V, dfs, hk]
theorem dfs_cl {n ci : Nat} : clE n (.inr (ci, dfs ci)) := by
  intro v hv
  obtain ⟨k, -, rfl⟩ := List.mem_map.mp hv
  intro i hi
  cases hty : FTy ci k <;> rw [hty] at hi <;> cases hi
theorem dfs_em {ad : Nat → Nat} {ci : Nat} : (dfs ci).map (em ad) = dfs ci := by
  unfold dfs
  rw [List.map_map]
  apply List.map_congr_left
  intro k _
  show em ad (defaultValue (FTy ci k)) = _
  cases FTy ci k <;> rfl
theorem sw_new {ci idx : Nat} (hp : pc + 3 = pc') (hdg : decode M.2.1 pc = .ok (.new idx, 3)) (hci : ci < 7) (hw1 : Cond.classLink M.1.cls idx (CN ci) ∈ GT) (hw2 : Cond.instantiable (CN ci) (FN ci) ∈ GT) (hw3 : Cond.initialized (CN ci) ∈ GT) (h1 : 1 ≤ bc) (h2 : FN ci ≤ bs)
    (kk : SW SR M d (bc - 1) (bs - FN ci) pc' lv (.ref n :: st) (up h n (.inr (ci, dfs ci))) (n + 1) Post) : SW SR M d bc bs pc lv st h n Post := by
  subst hp
  intro G p l e R s m args below meth c A ad0 n0 Q hc hr he H locs cells slots ls ad hm hl hx hbc hbs
  obtain ⟨hx1, hb1, hr1, hml1, hown1, hts1, hlk1, htb1, hlt1, hin1, hK1, hN1, hSR1, hAO1, hC1, hA1⟩ := id hc
  refine va_new hx1 hb1 hts1 (cls_ws hci) (FTy ci) (cls_ty hci) hown1 (hts1 _ hw1) (hts1 _ hw2) (hts1 _ hw3) hK1 hm.1 hm.2.1 hm.2.2.1 hA1 (vwCl_at hci) dfs_ok (by omega) (by omega) hdg (fun q H1 hP hD hS => ?_)
  have e9 : (Sum.inr (ci, dfs ci) : va_E) = emE G.2.1 ad (.inr (ci, dfs ci)) := by
    show _ = Sum.inr (ci, (dfs ci).map (em ad))
    rw [dfs_em]
  rw [e9] at hP hD
  have hl9 : LM (up ad n q) M.2.2.1 (n + 1) lv (.ref n :: st) ls := (hl.new (q := q)).stk (clc (hl.new (q := q)).2.2 clV_new)
  have k9 := kk G p l e R s m args below meth c A ad0 n0 Q hc hr he H1 locs (cells + 1) (slots + FN ci) ls (up ad n q) (hm.new dfs_cl hP hD hS) hl9 hx.new (by omega) (by omega)
  rw [List.map_cons, em_new hl.2.2] at k9
  have e1 : em (up ad n q) (.ref n) = .ref q := congrArg Value.ref up_s
  rw [e1] at k9
  exact k9
theorem sw_newa {t len : Nat} {aty : ArrayType} {x : Int32} (hp : pc + 2 = pc') (hdg : decode M.2.1 pc = .ok (.newarray aty, 2)) (ht : aty = .int ∧ t = 0 ∨ aty = .boolean ∧ t = 1 ∨ aty = .byte ∧ t = 2) (hw : Cond.arrayClass (newarray.typeOf aty) ∈ GT) (hx9 : x = nI len) (hlen : len ≤ 65536) (h1 : 1 ≤ bc) (h2 : len ≤ bs)
    (kk : SW SR M d (bc - 1) (bs - len) pc' lv (.ref n :: st) (up h n (.inl (t, len, .inl (fun _ => 0)))) (n + 1) Post) : SW SR M d bc bs pc lv (.int x :: st) h n Post := by
  subst hp
  intro G p l e R s m args below meth c A ad0 n0 Q hc hr he H locs cells slots ls ad hm hl hx hbc hbs
  obtain ⟨hx1, hb1, hr1, hml1, hown1, hts1, hlk1, htb1, hlt1, hin1, hK1, hN1, hSR1, hAO1, hC1, hA1⟩ := id hc
  subst hx9
  have ec : (nI len).toNatClampNeg = len := nI_clamp (by omega)
  have hcells9 : cells + 1 ≤ R.cells := by omega
  have hslots9 : slots + len ≤ R.slots := by omega
  have go : ∀ (q : Nat) (cA : ClassId) (H1 : Heap), t < 6 → va_K G.1 vwCl (tysOf G.2.1 ++ [(cA, aTy t)]) s → (∀ C, aTy t ≠ .object C) → va_P G.1 vwCl (wsH G ad h n ++ [(q, .inl (cA, len, .inl (fun _ => 0)))]) H1 → va_D A (wsH G ad h n ++ [(q, .inl (cA, len, .inl (fun _ => 0)))]) → va_S A s.heap H1 locs →
      W p l e R s m args below meth c H1 locs (cells + 1) (slots + len) Q (F0 m (pc + 2) ls (.ref q :: st.map (em ad))) := by
    intro q cA H1 ht6 hK9 hno hP hD hS
    have e1 : cA = G.2.1 t := by
      have g1 := (hK9.2 6 (cA, aTy t) rfl).2
      have g2 := (hK1.2 t _ (tysAt ht6)).2
      cases hty : aTy t <;> rw [hty] at g1 g2 <;> first | exact Option.some.inj (g1.symm.trans g2) | exact absurd hty (hno _)
    subst e1
    have hl8 : LM ad M.2.2.1 n lv st ls := hl.stk (cl1 hl.2.2)
    have hl9 : LM (up ad n q) M.2.2.1 (n + 1) lv (.ref n :: st) ls := (hl8.new (q := q)).stk (clc (hl8.new (q := q)).2.2 clV_new)
    have k9 := kk G p l e R s m args below meth c A ad0 n0 Q hc hr he H1 locs (cells + 1) (slots + len) ls (up ad n q) (hm.new (e := .inl (t, len, .inl (fun _ => 0))) trivial hP hD hS) hl9 hx.new (by omega) (by omega)
    rw [List.map_cons, em_new hl8.2.2] at k9
    have e1 : em (up ad n q) (.ref n) = .ref q := congrArg Value.ref up_s
    rw [e1] at k9
    exact k9
  rcases ht with ⟨rfl, rfl⟩ | ⟨rfl, rfl⟩ | ⟨rfl, rfl⟩
  · exact va_newa (a0 := (len, .inl (fun _ => 0))) (ty := .int) hx1 hb1 (hts1 _ hw) rfl hK1 hm.1 hm.2.1 hm.2.2.1 hA1 (fun _ => rfl) (nI_pos (by omega)) ec (by show len * 4 ≤ _; omega) hcells9 hslots9 hdg (fun q cA H1 a1 a2 a3 a4 => go q cA H1 (by decide) a1 (fun _ z => by cases z) a2 a3 a4)
  · exact va_newa (a0 := (len, .inl (fun _ => 0))) (ty := .boolean) hx1 hb1 (hts1 _ hw) rfl hK1 hm.1 hm.2.1 hm.2.2.1 hA1 (fun _ => rfl) (nI_pos (by omega)) ec (by show len * 1 ≤ _; omega) hcells9 hslots9 hdg (fun q cA H1 a1 a2 a3 a4 => go q cA H1 (by decide) a1 (fun _ z => by cases z) a2 a3 a4)
  · exact va_newa (a0 := (len, .inl (fun _ => 0))) (ty := .byte) hx1 hb1 (hts1 _ hw) rfl hK1 hm.1 hm.2.1 hm.2.2.1 hA1 (fun _ => rfl) (nI_pos (by omega)) ec (by show len * 1 ≤ _; omega) hcells9 hslots9 hdg (fun q cA H1 a1 a2 a3 a4 => go q cA H1 (by decide) a1 (fun _ z => by cases z) a2 a3 a4)
theorem sw_newq {t len idx : Nat} {x : Int32} (hp : pc + 3 = pc') (hdg : decode M.2.1 pc = .ok (.anewarray idx, 3)) (ht : t = 3 ∨ t = 4) (hw : ∀ C, aTy t = .object C → Cond.classLink M.1.cls idx C ∈ GT) (hx9 : x = nI len) (hlen : len ≤ 65536) (h1 : 1 ≤ bc) (h2 : len ≤ bs)
    (kk : SW SR M d (bc - 1) (bs - len) pc' lv (.ref n :: st) (up h n (.inl (t, len, .inr (.inr (.inr (.inr (fun _ => none))))))) (n + 1) Post) : SW SR M d bc bs pc lv (.int x :: st) h n Post := by
  subst hp
  intro G p l e R s m args below meth c A ad0 n0 Q hc hr he H locs cells slots ls ad hm hl hx hbc hbs
  obtain ⟨hx1, hb1, hr1, hml1, hown1, hts1, hlk1, htb1, hlt1, hin1, hK1, hN1, hSR1, hAO1, hC1, hA1⟩ := id hc
  subst hx9
  have ec : (nI len).toNatClampNeg = len := nI_clamp (by omega)
  obtain ⟨C, hC9, hAO⟩ : ∃ C, aTy t = .object C ∧ va_AO C s := by
    rcases ht with rfl | rfl
    · exact ⟨_, rfl, hAO1.1⟩
    · exact ⟨_, rfl, hAO1.2.1⟩
  have ht6 : t < 6 := by omega
  refine va_newq hx1 hb1 hown1 (hts1 _ (hw C hC9)) hAO hK1 hm.1 hm.2.1 hm.2.2.1 hA1 (N' := len) (nI_pos (by omega)) ec (by omega) (by omega) (by omega) hdg (fun q cA H1 hK9 hP hD hS => ?_)
  have e1 : cA = G.2.1 t := by
    obtain ⟨kA, comp, -, -, -, g1⟩ := (hK9.2 6 (cA, .object C) rfl).2
    have g2 := (hK1.2 t _ (tysAt ht6)).2
    rw [hC9] at g2
    obtain ⟨kA2, comp2, -, -, -, g2⟩ := g2
    exact Option.some.inj (g1.symm.trans g2)
  subst e1
  have hl8 : LM ad M.2.2.1 n lv st ls := hl.stk (cl1 hl.2.2)
  have hl9 : LM (up ad n q) M.2.2.1 (n + 1) lv (.ref n :: st) ls := (hl8.new (q := q)).stk (clc (hl8.new (q := q)).2.2 clV_new)
  have k9 := kk G p l e R s m args below meth c A ad0 n0 Q hc hr he H1 locs (cells + 1) (slots + len) ls (up ad n q) (hm.new (e := .inl (t, len, .inr (.inr (.inr (.inr (fun _ => none)))))) (fun _ _ z => by cases z) hP hD hS) hl9 hx.new (by omega) (by omega)
  rw [List.map_cons, em_new hl8.2.2] at k9
  have e1 : em (up ad n q) (.ref n) = .ref q := congrArg Value.ref up_s
  rw [e1] at k9
  exact k9
theorem sw_objInit {idx i : Nat} (hp : pc + 3 = pc') (hdg : decode M.2.1 pc = .ok (.invokespecial idx, 3)) (hw1 : Cond.methodLink M.1.cls idx Lib.objectInit ∈ GT) (hw2 : Cond.instanceMethod Lib.objectInit ∈ GT) (hw3 : Cond.code Lib.objectInit ⟨#[0xb1]⟩ 1 none ∈ GT) (hst : (st.map fun v => v.category).sum ≤ 8)
    (kk : SW SR M d bc bs pc' lv st h n Post) : SW SR M d bc bs pc lv (.ref i :: st) h n Post := by
  subst hp
  intro G p l e R s m args below meth c A ad0 n0 Q hc hr he H locs cells slots ls ad hm hl hx hbc hbs
  have hk9 := kk G p l e R s m args below meth c A ad0 n0 Q hc hr he H locs cells slots ls ad hm (hl.stk (cl1 hl.2.2)) hx hbc hbs
  obtain ⟨hx1, hb1, hr1, hml1, hown1, hts1, hlk1, htb1, hlt1, hin1, hK1, hN1, hSR1, hAO1, hC1, hA1⟩ := id hc
  have e9 : ((st.map (em ad)).map fun v => v.category) = st.map fun v => v.category := by
    rw [List.map_map]
    exact List.map_congr_left (fun v _ => em_cat)
  refine W.objInit hx1 hb1 hown1 (hts1 _ hw1) (hts1 _ hw2) (hts1 _ hw3) rfl (by rw [hml1]; exact hl.1.1) rfl hdg (by have := hr.1; omega) ?_ hk9
  show 2 * 0 + ((st.map (em ad)).map fun v => v.category).sum + 12 ≤ R.locals
  rw [e9]
  have := hr.2
  omega
/-- two of the enum's constants -/
theorem sw_acmp {i j : Nat} {off : Int} (hp : pc + 3 = pc') (hdg : decode M.2.1 pc = .ok (.if_acmp .ne off, 3)) (ht : (pc : Int) + off = (tgt : Int)) (h1 : 1 ≤ i ∧ i ≤ 5) (h2 : 1 ≤ j ∧ j ≤ 5)
    (kt : ¬ i = j → SW SR M d bc bs tgt lv st h n Post) (kf : i = j → SW SR M d bc bs pc' lv st h n Post) : SW SR M d bc bs pc lv (.ref j :: .ref i :: st) h n Post := by
  subst hp
  intro G p l e R s m args below meth c A ad0 n0 Q hc hr he H locs cells slots ls ad hm hl hx hbc hbs
  obtain ⟨hx1, hb1, hr1, hml1, hown1, hts1, hlk1, htb1, hlt1, hin1, hK1, hN1, hSR1, hAO1, hC1, hA1⟩ := id hc
  have e1 := (hm.2.2.2.2.2 i (by have := h1.2; unfold nC; omega)).2.1
  have e2 := (hm.2.2.2.2.2 j (by have := h2.2; unfold nC; omega)).2.1
  refine lv_acmp_ne (rx := some (ad i)) (ry := some (ad j)) hx1 hb1 hdg ht (fun z => ?_) (fun z => ?_)
  · exact kt (fun q => z (by rw [q])) G p l e R s m args below meth c A ad0 n0 Q hc hr he H locs cells slots ls ad hm (hl.stk (cl2 hl.2.2)) hx hbc hbs
  · have z9 : ad i = ad j := Option.some.inj z
    rw [e1, e2] at z9
    exact kf (hC1.2.2.2.2.2 i j h1.1 h1.2 h2.1 h2.2 z9) G p l e R s m args below meth c A ad0 n0 Q hc hr he H locs cells slots ls ad hm (hl.stk (cl2 hl.2.2)) hx hbc hbs
end
end
section
/-! 08.calls -/
/-! a method from its first place; throws; calls -/
theorem W.mono {p : Program} {l : Launch} {e : Env} {R : Room} {s : State} {m : MethodId} {args : Array Value} {below : List Frame} {meth : Method} {c : Code} {H : Heap} {locs : List Loc} {cells slots : Nat} {Q Q' : State → Prop} {g : JFrame} (hQ : ∀ t, Q t → Q' t) (k : W p l e R s m args below meth c H locs cells slots Q g) : W p l e R s m args below meth c H locs cells slots Q' g := by
  intro T hT X
  obtain ⟨t, a, b⟩ := k T hT X
  exact ⟨t, a, hQ t b⟩
theorem vx_W.mono {p : Program} {l : Launch} {e : Env} {R : Room} {s : State} {m : MethodId} {args : Array Value} {below : List Frame} {meth : Method} {c : Code} {H : Heap} {locs : List Loc} {cells slots : Nat} {Q Q' : State → Prop} {g : JFrame} {q : Addr} (hQ : ∀ t, Q t → Q' t) (k : vx_W p l e R s m args below meth c H locs cells slots Q g q) : vx_W p l e R s m args below meth c H locs cells slots Q' g q := by
  intro T hT X
  obtain ⟨t, a, b⟩ := k T hT X
  exact ⟨t, a, hQ t b⟩
theorem lv_args_map {ad : Nat → Nat} : ∀ (as : List Value) (i : Nat), lv_args i (as.map (em ad)) = (lv_args i as).map (fun q => (q.1, em ad q.2))
  | [], _ => rfl
  | v :: vs, i => by
    show (i, em ad v) :: lv_args (if (em ad v).category = 2 then i + 2 else i + 1) (vs.map (em ad)) = (i, em ad v) :: (lv_args (if v.category = 2 then i + 2 else i + 1) vs).map (fun q => (q.1, em ad q.2))
    rw [em_cat, lv_args_map vs]
theorem lv_args_cl {n : Nat} : ∀ (as : List Value) (i : Nat), (∀ v ∈ as, clV n v) → ∀ q ∈ lv_args i as, clV n q.2
  | [], _, _, q, hq => by cases hq
  | v :: vs, i, h, q, hq => by
    rcases List.mem_cons.mp hq with e | e
    · rw [e]; exact h v List.mem_cons_self
    · exact lv_args_cl vs _ (fun w hw => h w (List.mem_cons_of_mem _ hw)) q e
theorem lg_sl_len {ad : Nat → Nat} : ∀ (as : List Value), (lg_sl (as.map (em ad))).length = (lg_sl as).length
  | [] => rfl
  | v :: vs => by
    have ih := lg_sl_len (ad := ad) vs
    have e1 : lg_sl ((v :: vs).map (em ad)) = (if (em ad v).category = 2 then [.val (em ad v), .second] else [.val (em ad v)]) ++ lg_sl (vs.map (em ad)) := by simp [lg_sl]
    have e2 : lg_sl (v :: vs) = (if v.category = 2 then [.val v, .second] else [.val v]) ++ lg_sl vs := by simp [lg_sl]
    rw [e1, e2, List.length_append, List.length_append, ih, em_cat]
    split <;> rfl
theorem GT_good : ∀ w ∈ GT, goodWord w = true := fun w hw => (List.mem_filter.mp hw).2
theorem cwM_good (M : MI) : goodWord (cwM M) = true := by
  unfold cwM
  split <;> rfl
theorem wsM_GT {M : MI} (hM : cwM M ∈ GT) : GoodIn GT (wsM M) := fun w hw => by
  rcases List.mem_cons.mp hw with e | e
  · rw [e]; exact ⟨hM, good_of_word (cwM_good M)⟩
  · exact ⟨e, good_of_word (GT_good w e)⟩
section
variable {SR : SRT} {M : MI}
/-- the method's ends out of its contract -/
theorem en_of {d bc bs : Nat} {h0 : AH} {n0 : Nat} {Post : ARes → AH → Nat → Prop} {G : GD} {p : Program} {l : Launch} {e : Env} {R : Room} {s : State} {m : MethodId} {args : Array Value} {below : List Frame} {meth : Method} {c : Code} {A : Nat → Prop} {ad0 : Nat → Nat} (hc : CX SR G M p l s m args meth c A) :
    EN G M p l e R s m args below meth c A ad0 n0 (vx_MQ below (SQc G A ad0 n0 Post) (SXc G A ad0 n0 Post) args s R.cells R.slots A) Post := by
  obtain ⟨hx1, hb1, hr1, hml1, hown1, hts1, hlk1, htb1, hlt1, hin1, hK1, hN1, hSR1, hAO1, hC1, hA1⟩ := id hc
  refine ⟨fun H locs cells slots ls ad h n v pc hm hx hcl hP hcells hslots hret => ?_, fun H locs ad h n E hm hx hP t ht => ?_⟩
  · have hq : ∀ t : State, t.heap = H → s.WarmedH t.vm → SQc G A ad0 n0 Post args s (.returned (v.map (em ad))) t := fun t ht hW =>
      ⟨⟨v, ad, h, n, rfl, hP, hx, hcl, by rw [ht]; exact hm.1, hm.2.1, hm.2.2.2.1, hm.2.2.2.2.1, hm.2.2.2.2.2⟩, hm.2.2.1.F ht⟩
    refine vx_ret (W.widen hcells hslots ?_)
    match v, hret, hq with
    | none, hret, hq => exact W.vret hx1 hb1 (hr1.trans hret.2) hq hm.2.2.1.2.2 hret.1 hlk1
    | some (.int x), hret, hq =>
      obtain ⟨g1, ty, g2, g3⟩ := hret
      exact W.zret hx1 hb1 (hr1.trans g2) g3 hq hm.2.2.1.2.2 g1 hlk1
    | some (.long x), hret, hq => exact W.lret hx1 hb1 (hr1.trans hret.2) hq hm.2.2.1.2.2 hret.1 hlk1
    | some (.ref i), hret, hq =>
      obtain ⟨g1, rt, g2, g3⟩ := hret
      exact W.aret hx1 hb1 (hr1.trans g2) g3 (Or.inr ⟨_, rfl⟩) hq hm.2.2.1.2.2 g1 hlk1
  · obtain ⟨o, b1, b2, b3⟩ := ht
    refine ⟨o, b1, b2, ?_⟩
    rcases b3 with ⟨z, -⟩ | ⟨q, ho, E', ce, L, ⟨rfl, g1, g2⟩, g3, g4, g5, g6, g7, g8⟩
    · exact z.elim
    · refine Or.inr ⟨q, ho, E', ce, L, ⟨⟨ad, h, n, hP, hx, ?_, hm.2.1, hm.2.2.2.1, hm.2.2.2.2.1, hm.2.2.2.2.2⟩, ?_⟩, g3, g4, g5, g6, g7, g8⟩
      · exact hm.1.kept (fun k q hk => g2 _ ((hm.1 k q hk).lt))
      · exact ⟨Nat.le_trans hm.2.2.1.1 g1, fun q a b => (g2 q (Nat.lt_of_lt_of_le a hm.2.2.1.1)).trans (hm.2.2.1.2.1 q a b)⟩
theorem hm_entry {G : GD} {ad : Nat → Nat} {h : AH} {n sz : Nat} {s : State} (hv : PicU SR G ad h n sz s) : HM G (va_A (wsH G ad h n) sz) s.heap h n s.heap [] ad := by
  obtain ⟨h1, h2, h3, h4, h5, h6, -⟩ := hv
  refine ⟨h2, ?_, va_S.rf, h4, h5, h6⟩
  exact h3.self
theorem sm_of {d bc bs : Nat} {as : List Value} {h : AH} {n : Nat} {Post : ARes → AH → Nat → Prop} (hy : plainName M.1.cls = true) (hM : M.2.2.2.2 = []) (hlen : (lg_sl as).length ≤ M.2.2.1)
    (k : SW SR M d bc bs 0 (lv_args 0 as) [] h n Post) : SM SR M d bc bs as h n Post := by
  intro l hl G ad sz has
  have hcw : cwM M = Cond.code M.1 M.2.1 M.2.2.1 M.2.2.2.1 := by unfold cwM; rw [if_pos hM]
  refine vx_ofW (cc := M.2.1) (maxL := M.2.2.1) (ret := M.2.2.2.1) (ws' := GT) hy (by rw [← hcw]; rfl) ?_
  intro p e s m args below meth c s₁ B hml ht hv
  obtain ⟨rfl, hv⟩ := hv
  have hts := atoms_spec (ws := wsM M) B.pre
  have hcx : CX SR G M p l s m ((as.map (em ad)).toArray) meth c (va_A (wsH G ad h n) sz) := by
    refine ⟨B.exec, B.bytes, B.returns, hml, findClass_of_methodNamed B.named, fun w hw => hts w (List.mem_cons_of_mem _ hw), B.notSynchronized, ?_, hl, fun q => (name_of_methodNamed B.named B.method).1.trans q, hv.2.2.2.2.2.2.1, hv.2.2.2.2.2.2.2.1, hv.2.2.2.2.2.2.2.2.1, hv.2.2.2.2.2.2.2.2.2.1, hv.2.2.2.2.2.2.2.2.2.2, fun q hq => Or.inr (by rw [← hv.1]; exact hq)⟩
    rw [hM]
    exact List.eq_nil_iff_forall_not_mem.mpr ht
  have hl9 := lv_entry (as.map (em ad)) (n := M.2.2.1) (by rw [lg_sl_len]; exact hlen)
  rw [lg_entry_eq]
  refine k G p l e (headSpec (wsM M) (rmOf d bc bs)).room s m _ below meth c _ ad n _ hcx ⟨Nat.le_refl _, Nat.le_refl _⟩ (en_of (d := d) (bc := bc) (bs := bs) (h0 := h) hcx) _ _ 0 0 _ ad (hm_entry hv) ⟨?_, lv_args_cl as 0 has, fun v hv => by cases hv⟩ Ext.rf (by show 0 + bc ≤ bc; omega) (by show 0 + bs ≤ bs; omega)
  rw [← lv_args_map]
  exact hl9
theorem sm_ofH {d bc bs : Nat} {as : List Value} {h : AH} {n : Nat} {Post : ARes → AH → Nat → Prop} (hy : plainName M.1.cls = true) (hM : M.2.2.2.2 ≠ []) (hlen : (lg_sl as).length ≤ M.2.2.1)
    (k : SW SR M d bc bs 0 (lv_args 0 as) [] h n Post) : SM SR M d bc bs as h n Post := by
  intro l hl G ad sz has
  have hcw : cwM M = Cond.codeWith M.1 M.2.1 M.2.2.1 M.2.2.2.1 M.2.2.2.2 := by unfold cwM; rw [if_neg hM]
  refine vx_ofWH (cc := M.2.1) (maxL := M.2.2.1) (ret := M.2.2.2.1) (hh := M.2.2.2.2) (ws' := GT) hy (by rw [← hcw]; rfl) ?_
  intro p e s m args below meth c s₁ B hml hv
  obtain ⟨rfl, hv⟩ := hv
  have hts := atoms_spec (ws := wsM M) B.pre
  have hcx : CX SR G M p l s m ((as.map (em ad)).toArray) meth c (va_A (wsH G ad h n) sz) := by
    refine ⟨B.exec, B.bytes, B.returns, hml, findClass_of_methodNamed B.named, fun w hw => hts w (List.mem_cons_of_mem _ hw), B.notSynchronized, ?_, hl, fun q => (name_of_methodNamed B.named B.method).1.trans q, hv.2.2.2.2.2.2.1, hv.2.2.2.2.2.2.2.1, hv.2.2.2.2.2.2.2.2.1, hv.2.2.2.2.2.2.2.2.2.1, hv.2.2.2.2.2.2.2.2.2.2, fun q hq => Or.inr (by rw [← hv.1]; exact hq)⟩
    exact vx_table (x := M.1) B (hcw ▸ hts _ List.mem_cons_self)
  have hl9 := lv_entry (as.map (em ad)) (n := M.2.2.1) (by rw [lg_sl_len]; exact hlen)
  rw [lg_entry_eq]
  refine k G p l e (headSpec (wsM M) (rmOf d bc bs)).room s m _ below meth c _ ad n _ hcx ⟨Nat.le_refl _, Nat.le_refl _⟩ (en_of (d := d) (bc := bc) (bs := bs) (h0 := h) hcx) _ _ 0 0 _ ad (hm_entry hv) ⟨?_, lv_args_cl as 0 has, fun v hv => by cases hv⟩ Ext.rf (by show 0 + bc ≤ bc; omega) (by show 0 + bs ≤ bs; omega)
  rw [← lv_args_map]
  exact hl9
end
end
section
/-! 09.throws -/
/-! exceptions: made and thrown, going on, caught -/
/-- words of a throw: each a good one of GT, or one of NW that the tables alone decide, or one that no throw asks for -/
def ALW : List Cond → Prop
  | [] => True
  | a :: l => ((goodWord a = true ∧ a ∈ GT) ∨ (a.onTables = true ∧ a ∈ NW) ∨ vx_no a = false) ∧ ALW l
theorem ALW.use : ∀ {l : List Cond}, ALW l → ∀ w ∈ l, vx_no w = true → (goodWord w = true ∧ w ∈ GT) ∨ (w.onTables = true ∧ w ∈ NW)
  | [], _, w, hw, _ => by cases hw
  | a :: l, h, w, hw, hn => by
    rcases List.mem_cons.mp hw with rfl | hw
    · rcases h.1 with g | g | g
      · exact Or.inl g
      · exact Or.inr g
      · rw [g] at hn; cases hn
    · exact ALW.use h.2 w hw hn
/-- the words of a throw of E by 'throw new E("..")' in the class own -/
def thOK (own : String) (ic : Nat) (E : String) (names : List String) : Prop := ALW (Bundle.ownAtoms own ic E names)
theorem thOK_spec {own : String} {ic : Nat} {E : String} {names : List String} (h : thOK own ic E names) {args : Array Value} {s : State} (h1 : ∀ w ∈ GT, w.before args s = true) (h2 : NWs s) :
    (∀ w ∈ vx_atS own ic E names, w.before args s = true) ∧ ∀ w ∈ vx_atS own ic E names, vx_ot w = true := by
  refine ⟨fun w hw => ?_, fun w hw => ?_⟩
  · obtain ⟨a, b⟩ := List.mem_filter.mp hw
    rcases ALW.use h w a b with ⟨g1, g2⟩ | ⟨g1, g2⟩
    · exact h1 w g2
    · exact va_Nw.use g1 (h2 w g2)
  · obtain ⟨a, b⟩ := List.mem_filter.mp hw
    rcases ALW.use h w a b with ⟨g1, g2⟩ | ⟨g1, g2⟩
    · unfold vx_ot; rw [g1, Bool.or_true]
    · unfold vx_ot; rw [g1, Bool.true_or]
/-- E is pending at pc -/
def SWX (SR : SRT) (M : MI) (d bc bs : Nat) (pc : Nat) (lv : List (Nat × Value)) (E : String) (h : AH) (n : Nat) (Post : ARes → AH → Nat → Prop) : Prop :=
  ∀ (G : GD) (p : Program) (l : Launch) (e : Env) (R : Room) (s : State) (m : MethodId) (args : Array Value) (below : List Frame) (meth : Method) (c : Code) (A : Nat → Prop) (ad0 : Nat → Nat) (n0 : Nat) (Q : State → Prop),
    CX SR G M p l s m args meth c A → RM d R → EN G M p l e R s m args below meth c A ad0 n0 Q Post →
    ∀ (H : Heap) (locs : List Loc) (cells slots : Nat) (ls : Array Slot) (ad : Nat → Nat), HM G A s.heap h n H locs ad → LM ad M.2.2.1 n lv [] ls → Ext ad0 ad n0 n → cells + bc ≤ R.cells → slots + bs ≤ R.slots →
    ∀ (q9 : Addr) (ce : Cell) (rest : List Value), H[q9]? = some ce → ce.vm = .none → s.vm.findClass E = some ce.cls → vx_W p l e R s m args below meth c H locs cells slots Q (F0 m pc ls rest) q9
section
variable {SR : SRT} {M : MI} {d bc bs pc pc' tgt n : Nat} {lv : List (Nat × Value)} {st : List Value} {h : AH} {Post : ARes → AH → Nat → Prop}
theorem sw_throw {E tx : String} {ik is ic i : Nat} {names : List String} (hM : M.2.2.2.2 = []) (d0 : decode M.2.1 pc = .ok (.new ik, 3)) (d3 : decode M.2.1 (pc + 3) = .ok (.dup, 1)) (d4 : decode M.2.1 (pc + 4) = .ok (.ldc is, 2)) (d6 : decode M.2.1 (pc + 6) = .ok (.invokespecial ic, 3)) (d9 : decode M.2.1 (pc + 9) = .ok (.athrow, 1))
    (hE : Bundle.fit E = true) (hn : ∀ z ∈ names, Bundle.fit z = true) (hlen : names.length ≤ 3) (hk : Cond.classLink M.1.cls ik E ∈ GT) (hini : Cond.initialized E ∈ GT) (hs : (M.1.cls, is, tx, i) ∈ SR) (hth : thOK M.1.cls ic E names) (h1 : 1 ≤ bc) (h2 : 6 ≤ bs) (hP : Post (.inr E) h n) : SW SR M d bc bs pc lv [] h n Post := by
  intro G p l e R s m args below meth c A ad0 n0 Q hc hr he H locs cells slots ls ad hm hl hx hbc hbs
  obtain ⟨hx1, hb1, hr1, hml1, hown1, hts1, hlk1, htb1, hlt1, hin1, hK1, hN1, hSR1, hAO1, hC1, hA1⟩ := id hc
  obtain ⟨t1, t2⟩ := thOK_spec hth hts1 hN1
  have hz : vk_R M.1.cls is tx (G.2.2.1 i) s := hSR1 (M.1.cls, is, tx, i) hs
  have hgood : ∀ w ∈ Cond.classLink M.1.cls ik E :: Cond.initialized E :: vx_atS M.1.cls ic E names, vx_ot w = true := by
    intro w hw
    rcases List.mem_cons.mp hw with rfl | hw
    · rfl
    rcases List.mem_cons.mp hw with rfl | hw
    · rfl
    exact t2 w hw
  have hfr := hr.1
  have hlo := hr.2
  refine W.mono (Q := vx_MQ below (fun _ _ _ _ => False) (vx_XH E H) args s R.cells R.slots A) (fun t ht => he.2 H locs ad h n E hm hx hP t ht) ?_
  exact vx_throwS (rest := []) (A := A) hx1 hb1 hlt1 hown1 hE hn (hts1 _ hk) (hts1 _ hini) hz t1 hgood hC1.2.2.2.1 hC1.2.2.2.2.1 hm.2.2.1 (by rw [hml1]; exact hl.1.1) d0 d3 d4 d6 d9
    (fun x hx => by rw [htb1, hM] at hx; cases hx) (by omega) (by show 0 + _ ≤ _; omega) (by omega) (by omega) hlk1 (fun t hvm a b => ⟨rfl, a, b⟩) hm.2.2.1.2.2 (by omega) (by omega)
theorem sw_throwW {E tx : String} {ik is ic i : Nat} {names : List String} (hM : M.2.2.2.2 = []) (d0 : decode M.2.1 pc = .ok (.new ik, 3)) (d3 : decode M.2.1 (pc + 3) = .ok (.dup, 1)) (d4 : decode M.2.1 (pc + 4) = .ok (.ldc_w is, 3)) (d6 : decode M.2.1 (pc + 7) = .ok (.invokespecial ic, 3)) (d9 : decode M.2.1 (pc + 10) = .ok (.athrow, 1))
    (hE : Bundle.fit E = true) (hn : ∀ z ∈ names, Bundle.fit z = true) (hlen : names.length ≤ 3) (hk : Cond.classLink M.1.cls ik E ∈ GT) (hini : Cond.initialized E ∈ GT) (hs : (M.1.cls, is, tx, i) ∈ SR) (hth : thOK M.1.cls ic E names) (h1 : 1 ≤ bc) (h2 : 6 ≤ bs) (hP : Post (.inr E) h n) : SW SR M d bc bs pc lv [] h n Post := by
  intro G p l e R s m args below meth c A ad0 n0 Q hc hr he H locs cells slots ls ad hm hl hx hbc hbs
  obtain ⟨hx1, hb1, hr1, hml1, hown1, hts1, hlk1, htb1, hlt1, hin1, hK1, hN1, hSR1, hAO1, hC1, hA1⟩ := id hc
  obtain ⟨t1, t2⟩ := thOK_spec hth hts1 hN1
  have hz : vk_R M.1.cls is tx (G.2.2.1 i) s := hSR1 (M.1.cls, is, tx, i) hs
  have hgood : ∀ w ∈ Cond.classLink M.1.cls ik E :: Cond.initialized E :: vx_atS M.1.cls ic E names, vx_ot w = true := by
    intro w hw
    rcases List.mem_cons.mp hw with rfl | hw
    · rfl
    rcases List.mem_cons.mp hw with rfl | hw
    · rfl
    exact t2 w hw
  have hfr := hr.1
  have hlo := hr.2
  refine W.mono (Q := vx_MQ below (fun _ _ _ _ => False) (vx_XH E H) args s R.cells R.slots A) (fun t ht => he.2 H locs ad h n E hm hx hP t ht) ?_
  exact vx_throwSW (rest := []) (A := A) hx1 hb1 hlt1 hown1 hE hn (hts1 _ hk) (hts1 _ hini) hz t1 hgood hC1.2.2.2.1 hC1.2.2.2.2.1 hm.2.2.1 (by rw [hml1]; exact hl.1.1) d0 d3 d4 d6 d9
    (fun x hx => by rw [htb1, hM] at hx; cases hx) (by omega) (by show 0 + _ ≤ _; omega) (by omega) (by omega) hlk1 (fun t hvm a b => ⟨rfl, a, b⟩) hm.2.2.1.2.2 (by omega) (by omega)
theorem swx_out {E : String} (hM : M.2.2.2.2 = []) (hP : Post (.inr E) h n) : SWX SR M d bc bs pc lv E h n Post := by
  intro G p l e R s m args below meth c A ad0 n0 Q hc hr he H locs cells slots ls ad hm hl hx hbc hbs q9 ce rest hce hcv hcl
  obtain ⟨hx1, hb1, hr1, hml1, hown1, hts1, hlk1, htb1, hlt1, hin1, hK1, hN1, hSR1, hAO1, hC1, hA1⟩ := id hc
  refine vx_W.mono (Q := vx_MQ below (fun _ _ _ _ => False) (vx_XH E H) args s R.cells R.slots A) (fun t ht => he.2 H locs ad h n E hm hx hP t ht) ?_
  exact vx_out (fun x hx => by rw [htb1, hM] at hx; cases hx) hlk1 hce hcv hcl (fun t ht _ => ⟨rfl, by rw [ht]; exact Nat.le_refl _, fun q _ => by rw [ht]⟩) hm.2.2.1.2.2 (by omega) (by omega)
/-- caught by the table's row x, where the handler begins by putting it into a local, which nobody reads -/
theorem swx_catch {E : String} {pre suf : List (Nat × Nat × Nat × Nat)} {x : Nat × Nat × Nat × Nat} {k0 : Fin 4} {lv' : List (Nat × Value)} (hsplit : M.2.2.2.2 = pre ++ x :: suf) (hpass : ∀ z ∈ pre, z.2.2.2 ≠ 0 ∧ ∃ nm, Cond.classLink M.1.cls z.2.2.2 nm ∈ GT ∧ (E, nm) ∈ XP) (hx0 : x.1 ≤ pc ∧ pc < x.2.1) (h0 : x.2.2.2 ≠ 0) (hlink : Cond.classLink M.1.cls x.2.2.2 E ∈ GT) (hcast : Cond.castable E E ∈ NW)
    (hdg : decode M.2.1 x.2.2.1 = .ok (.astore_n k0, 1)) (hk : (k0 : Nat) < M.2.2.1) (hl9 : lv.filter (fun q => !(q.1 == (k0 : Nat)) && !(q.1 + 1 == (k0 : Nat) && q.2.category == 2)) = lv') (k : SW SR M d bc bs (x.2.2.1 + 1) lv' [] h n Post) : SWX SR M d bc bs pc lv E h n Post := by
  subst hl9
  intro G p l e R s m args below meth c A ad0 n0 Q hc hr he H locs cells slots ls ad hm hl hx hbc hbs q9 ce rest hce hcv hcl
  obtain ⟨hx1, hb1, hr1, hml1, hown1, hts1, hlk1, htb1, hlt1, hin1, hK1, hN1, hSR1, hAO1, hC1, hA1⟩ := id hc
  have e1 : c.exceptionTable.toList = tableOf pre ++ ⟨x.1, x.2.1, x.2.2.1, x.2.2.2⟩ :: tableOf suf := by
    rw [htb1, hsplit]
    simp [tableOf]
  refine vx_catch hown1 (tableOf pre) ⟨x.1, x.2.1, x.2.2.1, x.2.2.2⟩ (tableOf suf) e1 (fun z hz => ?_) (by simp [covers]; omega) h0 (hts1 _ hlink) (va_Nw.use rfl (hN1 _ hcast)) hce hcv hcl ?_
  · obtain ⟨z', hz', rfl⟩ := List.mem_map.mp hz
    obtain ⟨g1, nm, g2, g3⟩ := hpass z' hz'
    exact Or.inr ⟨g1, nm, hts1 _ g2, hAO1.2.2.2 _ g3⟩
  · refine lv_astore_n hx1 hb1 hdg rfl hl.1 hk rfl (fun ls' hl' => ?_)
    refine k G p l e R s m args below meth c A ad0 n0 Q hc hr he H locs cells slots ls' ad hm ⟨⟨hl'.1, hl'.2.1, fun q hq => ?_⟩, fun q hq => hl.2.1 q (List.mem_filter.mp hq).1, fun v hv => by cases hv⟩ hx hbc hbs
    apply hl'.2.2
    refine List.mem_cons_of_mem _ ?_
    obtain ⟨z, hz, rfl⟩ := List.mem_map.mp hq
    obtain ⟨z1, z2⟩ := List.mem_filter.mp hz
    refine List.mem_filter.mpr ⟨List.mem_map.mpr ⟨z, z1, rfl⟩, ?_⟩
    show (!(z.1 == (k0 : Nat)) && !(z.1 + 1 == (k0 : Nat) && (em ad z.2).category == 2)) = true
    rw [em_cat]
    exact z2
end
end
section
/-! 10.invoke -/
/-! calls -/
theorem PicU.warm {SR : SRT} {G : GD} {ad : Nat → Nat} {h : AH} {n sz : Nat} {U U' : State} (hW : U.WarmedH U'.vm) (hh : U'.heap = U.heap) (hp : PicU SR G ad h n sz U) : PicU SR G ad h n sz U' := by
  obtain ⟨h1, h2, h3, h4, h5, h6, h7, h8, h9, h10, h11⟩ := hp
  refine ⟨by rw [hh]; exact h1, by rw [hh]; exact h2, h3, h4, h5, h6, va_K.moved hW.alike h7, h8.warm hW, fun q hq => (h9 q hq).warm hW, h10.moved hW.alike, ?_⟩
  rw [hh]
  exact h11.moved hW.alike
theorem picU_blind {SR : SRT} {G : GD} {ad : Nat → Nat} {h : AH} {n sz : Nat} {as : List Value} : FrameBlind (va_Pc as (PicU SR G ad h n sz)) := fun a U g mk q => ⟨q.1, PicU.warm (U := U) (U' := U.calling g mk a) (State.WarmedH.refl U) rfl q.2⟩
theorem ws_free {G : GD} {A : Nat → Prop} {H0 : Heap} {h : AH} {n : Nat} {H : Heap} {locs : List Loc} {ad : Nat → Nat} (hm : HM G A H0 h n H locs ad) (hA : ∀ q, H0.size ≤ q → A q) : ∀ q, va_A (wsH G ad h n) H.size q → A q := fun q hq => by
  rcases hq with ⟨k, e, hk⟩ | hq
  · exact hm.2.1.2 k _ hk
  · exact hA q (Nat.le_trans hm.2.2.1.1 hq)
section
variable {SR : SRT} {M : MI} {p : Program} {l : Launch} {e : Env} {R : Room} {s : State} {m : MethodId} {args : Array Value} {below : List Frame} {meth : Method} {c : Code} {H : Heap} {locs : List Loc} {cells slots : Nat} {Q : State → Prop}
  {d bc bs bc' bs' pc n n0 : Nat} {lv : List (Nat × Value)} {st : List Value} {h : AH} {Post Post' : ARes → AH → Nat → Prop} {G : GD} {A : Nat → Prop} {ad ad0 : Nat → Nat} {ls : Array Slot} {st0 : List Value} {a : Array Value}
theorem picU_at (hc : CX SR G M p l s m args meth c A) (hm : HM G A s.heap h n H locs ad) {U : State} (hU : U.heap = H) (hW : s.WarmedH U.vm) : PicU SR G ad h n H.size U := by
  obtain ⟨hx1, hb1, hr1, hml1, hown1, hts1, hlk1, htb1, hlt1, hin1, hK1, hN1, hSR1, hAO1, hC1, hA1⟩ := id hc
  refine ⟨by rw [hU], by rw [hU]; exact hm.1, hm.2.1.weaken (fun _ _ _ _ => trivial), hm.2.2.2.1, hm.2.2.2.2.1, hm.2.2.2.2.2, va_K.moved hW.alike hK1, hN1.warm hW, fun q hq => (hSR1 q hq).warm hW, hAO1.moved hW.alike, ?_⟩
  rw [hU]
  exact ((hC1.kept hm.2.2.1.2.1).moved hW.alike).narrow (ws_free hm hA1)
theorem lm_ext {n' : Nat} {ad' : Nat → Nat} {st' : List Value} (hl : LM ad M.2.2.1 n lv st ls) (hE : Ext ad ad' n n') (hcl : ∀ v ∈ st', clV n' v) : LM ad' M.2.2.1 n' lv st' ls := by
  refine ⟨?_, fun q hq => clV_mono (hl.2.1 q hq) hE.1, hcl⟩
  have e1 : lv.map (fun z => (z.1, em ad' z.2)) = lv.map (fun z => (z.1, em ad z.2)) := List.map_congr_left (fun z hz => by rw [em_eq (hl.2.1 z hz) hE.2])
  rw [e1]
  exact hl.1
theorem run_go (hc : CX SR G M p l s m args meth c A) (hr : RM d R) (he : EN G M p l e R s m args below meth c A ad0 n0 Q Post) (hm : HM G A s.heap h n H locs ad) (hl : LM ad M.2.2.1 n lv st ls) (hx : Ext ad0 ad n0 n) (hbc : cells + bc ≤ R.cells) (hbs : slots + bs ≤ R.slots) (hb1 : bc' ≤ bc) (hb2 : bs' ≤ bs)
    (hrun : vx_Run p l e R s m args below meth c H locs cells slots bc' bs' (F0 m pc ls st0) (st.map (em ad)) (SQc G (va_A (wsH G ad h n) H.size) ad n Post' a) (SXc G (va_A (wsH G ad h n) H.size) ad n Post') (va_A (wsH G ad h n) H.size))
    (kk : ∀ v h' n', n ≤ n' → Post' (.inl v) h' n' → SW SR M d (bc - bc') (bs - bs') (pc + 3) lv (v.toList ++ st) h' n' Post) (kx : ∀ E h' n', n ≤ n' → Post' (.inr E) h' n' → SWX SR M d (bc - bc') (bs - bs') pc lv E h' n' Post) :
    W p l e R s m args below meth c H locs cells slots Q (F0 m pc ls st0) := by
  have hA1 : ∀ q, s.heap.size ≤ q → A q := hc.2.2.2.2.2.2.2.2.2.2.2.2.2.2.2
  have hfree := ws_free hm hA1
  intro T hT X
  rcases hrun T hT X with ⟨v, st₀, t, T', L, h0, X', hL, e1, e2, ⟨⟨v', ad', h', n', hv, hP, hE, hcl, hPic⟩, hF⟩, hst⟩ | ⟨q, st₀, t, T', L, E, ce, h0, X', hL, e1, e2, ⟨⟨ad', h', n', hP, hE, hPic⟩, hF⟩, hce, hcv, hcl, hst⟩
  · obtain ⟨k1, k2, k3⟩ := vx_keep h0 e1 hm.2.2.1 (fun q _ hq => hfree q hq) hfree hL hF
    have hv9 : v = v'.map (em ad') := Outcome.returned.inj hv
    subst hv9
    have hm' : HM G A s.heap h' n' T'.heap (locs ++ L) ad' := ⟨by rw [e1]; exact hPic.1, hPic.2.1.weaken (fun _ q _ hq => hfree q.1 hq), k3, hPic.2.2.1, hPic.2.2.2.1, hPic.2.2.2.2⟩
    have hcl' : ∀ w ∈ v'.toList ++ st, clV n' w := fun w hw => by
      rcases List.mem_append.mp hw with g | g
      · cases v' with
        | none => cases g
        | some z => cases g with
          | head => exact hcl _ rfl
          | tail _ g => cases g
      · exact clV_mono (hl.2.2 w g) hE.1
    have e9 : (v'.map (em ad')).toList ++ st.map (em ad) = (v'.toList ++ st).map (em ad') := by
      rw [List.map_append]
      congr 1
      · cases v' <;> rfl
      · exact List.map_congr_left (fun z hz => (em_eq (hl.2.2 z hz) hE.2).symm)
    have k9 := kk v' h' n' hE.1 hP G p l e R s m args below meth c A ad0 n0 Q hc hr he T'.heap (locs ++ L) (cells + bc') (slots + bs') ls ad' hm' (lm_ext hl hE hcl') (hx.tr hE) (by omega) (by omega) T' rfl X'
    obtain ⟨t2, a1, b1⟩ := k9
    refine ⟨t2, hst t2 ?_, b1⟩
    rw [← e9] at a1
    exact a1
  · obtain ⟨k1, k2, k3⟩ := vx_keep h0 e1 hm.2.2.1 (fun q _ hq => hfree q hq) hfree hL hF
    have hm' : HM G A s.heap h' n' T'.heap (locs ++ L) ad' := ⟨by rw [e1]; exact hPic.1, hPic.2.1.weaken (fun _ q _ hq => hfree q.1 hq), k3, hPic.2.2.1, hPic.2.2.2.1, hPic.2.2.2.2⟩
    obtain ⟨t2, a1, b1⟩ := kx E h' n' hE.1 hP G p l e R s m args below meth c A ad0 n0 Q hc hr he T'.heap (locs ++ L) (cells + bc') (slots + bs') ls ad' hm' (lm_ext hl hE (fun v hv => by cases hv)) (hx.tr hE) (by omega) (by omega) q ce (st.map (em ad)) (by rw [e1]; exact hce) hcv hcl T' rfl X'
    exact ⟨t2, hst.trans a1, b1⟩
theorem recv_at (hc : CX SR G M p l s m args meth c A) (hm : HM G A s.heap h n H locs ad) {b ci : Nat} {fs : List Value} (hb : h b = .inr (ci, fs)) (hbn : b < n) : ∃ cellB : Cell, H[ad b]? = some cellB ∧ cellB.vm.isStatics = false ∧ s.vm.findClass (CN ci) = some cellB.cls := by
  obtain ⟨hx1, hb1, hr1, hml1, hown1, hts1, hlk1, htb1, hlt1, hin1, hK1, hN1, hSR1, hAO1, hC1, hA1⟩ := id hc
  by_cases q : nC ≤ b
  · have e0 : (wsH G ad h n)[b - nC]? = some (ad b, .inr (ci, fs.map (em ad))) := by
      have h9 := wsH_get (G := G) (ad := ad) (h := h) q hbn
      rw [hb] at h9
      exact h9
    have hci : ci < 7 := by
      obtain ⟨r, hr9, -⟩ := hm.1 _ _ e0
      exact vwCl_lt hr9
    exact va_recv hK1 hm.1 (vwCl_at hci) e0
  · have q1 : b < nC := by omega
    obtain ⟨c1, c2, -⟩ := hm.2.2.2.2.2 b q1
    obtain ⟨c4, -⟩ := hC1.1 b ci fs q1 (by rw [← c1]; exact hb)
    rw [← c2] at c4
    obtain ⟨cell, g1, g2, g3, g4⟩ := c4.kept hm.2.2.1.2.1
    exact ⟨cell, g1, g2, g3⟩
end
theorem cat_map {ad : Nat → Nat} {st : List Value} : ((st.map (em ad)).map fun v => v.category).sum = (st.map fun v => v.category).sum := by
  rw [List.map_map]
  exact congrArg List.sum (List.map_congr_left (fun v _ => em_cat))
theorem rm_ok {d d' mx : Nat} {R : Room} {bc' bs' : Nat} (hr : RM d R) (hd : d' < d) (hm : mx ≤ 81) : (rmOf d' bc' bs').frames + 1 ≤ R.frames ∧ 8 + (mx + 11) + (rmOf d' bc' bs').locals ≤ R.locals := by
  have h1 := hr.1
  have h2 := hr.2
  constructor
  · show 2 * d' + 10 + 1 ≤ _
    omega
  · show 8 + (mx + 11) + (100 * d' + 200) ≤ _
    omega
def notMH (y : MethodName) : Bool := decide (y.cls ≠ "java/lang/invoke/MethodHandle") && decide (y.cls ≠ "java/lang/invoke/VarHandle")
theorem notMH_spec {y : MethodName} (h : notMH y = true) : y.cls ≠ "java/lang/invoke/MethodHandle" ∧ y.cls ≠ "java/lang/invoke/VarHandle" := by
  rw [notMH, Bool.and_eq_true] at h
  exact ⟨of_decide_eq_true h.1, of_decide_eq_true h.2⟩
theorem stk_map {ad : Nat → Nat} {as : List Value} {w : Value} {st : List Value} : (as.reverse ++ w :: st).map (em ad) = (as.map (em ad)).reverse ++ em ad w :: st.map (em ad) := by
  rw [List.map_append, List.map_reverse]
  rfl
theorem stk_map0 {ad : Nat → Nat} {as : List Value} {st : List Value} : (as.reverse ++ st).map (em ad) = (as.map (em ad)).reverse ++ st.map (em ad) := by
  rw [List.map_append, List.map_reverse]
section
variable {SR : SRT} {M M' : MI} {d d' bc bs bc' bs' pc idx n : Nat} {lv : List (Nat × Value)} {st as : List Value} {h : AH} {Post Post' : ARes → AH → Nat → Prop}
theorem sw_callV {b ci : Nat} {fs : List Value} (hdg : decode M.2.1 pc = .ok (.invokevirtual idx, 3)) (hw1 : Cond.methodLink M.1.cls idx M'.1 ∈ GT) (hw2 : Cond.instanceMethod M'.1 ∈ GT) (hw3 : Cond.selects M'.1.cls M'.1 M'.1 ∈ GT) (hw4 : Cond.initialized M'.1.cls ∈ GT) (hw5 : cwM M' ∈ GT) (hmh : notMH M'.1 = true) (hpar : (parseMethodDescriptor M'.1.desc).map (fun d => d.parameters.length) = some as.length) (hM0 : M'.2.2.2.2 = []) (hd' : d' < d) (hmx : M'.2.2.1 ≤ 81)
    (hM : SM SR M' d' bc' bs' (.ref b :: as) h n Post') (hb : h b = .inr (ci, fs)) (hci : CN ci = M'.1.cls) (hst : (st.map fun v => v.category).sum ≤ 8) (hb1 : bc' ≤ bc) (hb2 : bs' ≤ bs)
    (kk : ∀ v h' n', n ≤ n' → Post' (.inl v) h' n' → SW SR M d (bc - bc') (bs - bs') (pc + 3) lv (v.toList ++ st) h' n' Post) (kx : ∀ E h' n', n ≤ n' → Post' (.inr E) h' n' → SWX SR M d (bc - bc') (bs - bs') pc lv E h' n' Post) : SW SR M d bc bs pc lv (as.reverse ++ .ref b :: st) h n Post := by
  intro G p l e R s m args below meth c A ad0 n0 Q hc hr he H locs cells slots ls ad hm hl hx hbc hbs
  obtain ⟨hx1, hb9, hr1, hml1, hown1, hts1, hlk1, htb1, hlt1, hin1, hK1, hN1, hSR1, hAO1, hC1, hA1⟩ := id hc
  have hbn : b < n := hl.2.2 (.ref b) (List.mem_append_right _ List.mem_cons_self) b rfl
  have has : ∀ v ∈ Value.ref b :: as, clV n v := fun v hv => (List.mem_cons.mp hv).elim (fun q => by rw [q]; exact hl.2.2 _ (List.mem_append_right _ List.mem_cons_self)) (fun q => hl.2.2 v (List.mem_append_left _ (List.mem_reverse.mpr q)))
  have hl9 : LM ad M.2.2.1 n lv st ls := hl.stk (fun v hv => hl.2.2 v (List.mem_append_right _ (List.mem_cons_of_mem _ hv)))
  have hMet := hM l hlt1 G ad H.size has
  have hcw : cwM M' = Cond.code M'.1 M'.2.1 M'.2.2.1 M'.2.2.2.1 := by unfold cwM; rw [if_pos hM0]
  have hlen9 : (as.map (em ad)).length = as.length := List.length_map ..
  refine run_go hc hr he hm hl9 hx hbc hbs hb1 hb2 (a := ((Value.ref (ad b) :: as.map (em ad))).toArray) ?_ kk kx
  refine vx_runV (Ts := GT) (own := M.1.cls) (C := M'.1.cls) (cc := M.2.1) (nL := M.2.2.1) (bytes := M'.2.1) (maxL := M'.2.2.1) (ret := M'.2.2.2.1) (As := as.map (em ad)) ⟨hx1, hb9, hml1, hown1, hts1⟩ hMet
    (cwV (ws' := GT) as.length hts1 (fun w hw => ?_) (by rw [← hcw]; rfl) rfl rfl ⟨rfl, (notMH_spec hmh).1, (notMH_spec hmh).2, hpar⟩ (rm_ok hr hd' hmx)) ⟨picU_blind, hci ▸ recv_at hc hm hb hbn, fun U hU hW => ⟨rfl, picU_at hc hm hU hW⟩⟩ rfl hlen9 hl.1.1 stk_map (by show 2 * 0 + ((st.map (em ad)).map fun v => v.category).sum ≤ 8; rw [cat_map]; omega) hdg ⟨by omega, by omega⟩
  unfold wsV at hw
  simp only [List.cons_append, List.nil_append, List.mem_cons] at hw
  rcases hw with rfl | rfl | rfl | rfl | hw
  · exact ⟨hw1, good_of_word (GT_good _ hw1)⟩
  · exact ⟨hw2, good_of_word (GT_good _ hw2)⟩
  · exact ⟨hw3, good_of_word (GT_good _ hw3)⟩
  · exact ⟨hw4, good_of_word (GT_good _ hw4)⟩
  · exact wsM_GT hw5 w hw
theorem sw_callS (hdg : decode M.2.1 pc = .ok (.invokestatic idx, 3)) (hw1 : Cond.methodLink M.1.cls idx M'.1 ∈ GT) (hw2 : Cond.static M'.1 ∈ GT) (hw4 : Cond.initialized M'.1.cls ∈ GT) (hw5 : cwM M' ∈ GT) (hmh : notMH M'.1 = true) (hpar : (parseMethodDescriptor M'.1.desc).map (fun d => d.parameters.length) = some as.length) (hM0 : M'.2.2.2.2 = []) (hd' : d' < d) (hmx : M'.2.2.1 ≤ 81)
    (hM : SM SR M' d' bc' bs' as h n Post') (hst : (st.map fun v => v.category).sum ≤ 8) (hb1 : bc' ≤ bc) (hb2 : bs' ≤ bs)
    (kk : ∀ v h' n', n ≤ n' → Post' (.inl v) h' n' → SW SR M d (bc - bc') (bs - bs') (pc + 3) lv (v.toList ++ st) h' n' Post) (kx : ∀ E h' n', n ≤ n' → Post' (.inr E) h' n' → SWX SR M d (bc - bc') (bs - bs') pc lv E h' n' Post) : SW SR M d bc bs pc lv (as.reverse ++ st) h n Post := by
  intro G p l e R s m args below meth c A ad0 n0 Q hc hr he H locs cells slots ls ad hm hl hx hbc hbs
  obtain ⟨hx1, hb9, hr1, hml1, hown1, hts1, hlk1, htb1, hlt1, hin1, hK1, hN1, hSR1, hAO1, hC1, hA1⟩ := id hc
  have has : ∀ v ∈ as, clV n v := fun v hv => hl.2.2 v (List.mem_append_left _ (List.mem_reverse.mpr hv))
  have hl9 : LM ad M.2.2.1 n lv st ls := hl.stk (fun v hv => hl.2.2 v (List.mem_append_right _ hv))
  have hMet := hM l hlt1 G ad H.size has
  have hcw : cwM M' = Cond.code M'.1 M'.2.1 M'.2.2.1 M'.2.2.2.1 := by unfold cwM; rw [if_pos hM0]
  refine run_go hc hr he hm hl9 hx hbc hbs hb1 hb2 (a := (as.map (em ad)).toArray) ?_ kk kx
  refine vx_runS (Ts := GT) (own := M.1.cls) (cc := M.2.1) (nL := M.2.2.1) (bytes := M'.2.1) (maxL := M'.2.2.1) (ret := M'.2.2.2.1) (As := as.map (em ad)) ⟨hx1, hb9, hml1, hown1, hts1⟩ hMet
    (va_cwS (ws' := GT) as.length hts1 (fun w hw => ?_) (by rw [← hcw]; rfl) rfl rfl ⟨(notMH_spec hmh).1, (notMH_spec hmh).2, hpar⟩ (rm_ok hr hd' hmx)) ⟨picU_blind, fun U hU hW => ⟨rfl, picU_at hc hm hU hW⟩⟩ rfl (List.length_map ..) hl.1.1 stk_map0 (by show 2 * 0 + ((st.map (em ad)).map fun v => v.category).sum ≤ 8; rw [cat_map]; omega) hdg ⟨by omega, by omega⟩
  unfold va_wsS at hw
  simp only [List.cons_append, List.nil_append, List.mem_cons] at hw
  rcases hw with rfl | rfl | rfl | hw
  · exact ⟨hw1, good_of_word (GT_good _ hw1)⟩
  · exact ⟨hw2, good_of_word (GT_good _ hw2)⟩
  · exact ⟨hw4, good_of_word (GT_good _ hw4)⟩
  · exact wsM_GT hw5 w hw
/-- a static method with a table of its own -/
theorem sw_callSH (hdg : decode M.2.1 pc = .ok (.invokestatic idx, 3)) (hw1 : Cond.methodLink M.1.cls idx M'.1 ∈ GT) (hw2 : Cond.static M'.1 ∈ GT) (hw4 : Cond.initialized M'.1.cls ∈ GT) (hw5 : cwM M' ∈ GT) (hmh : notMH M'.1 = true) (hpar : (parseMethodDescriptor M'.1.desc).map (fun d => d.parameters.length) = some as.length) (hM0 : M'.2.2.2.2 ≠ []) (hd' : d' < d) (hmx : M'.2.2.1 ≤ 81)
    (hM : SM SR M' d' bc' bs' as h n Post') (hst : (st.map fun v => v.category).sum ≤ 8) (hb1 : bc' ≤ bc) (hb2 : bs' ≤ bs)
    (kk : ∀ v h' n', n ≤ n' → Post' (.inl v) h' n' → SW SR M d (bc - bc') (bs - bs') (pc + 3) lv (v.toList ++ st) h' n' Post) (kx : ∀ E h' n', n ≤ n' → Post' (.inr E) h' n' → SWX SR M d (bc - bc') (bs - bs') pc lv E h' n' Post) : SW SR M d bc bs pc lv (as.reverse ++ st) h n Post := by
  intro G p l e R s m args below meth c A ad0 n0 Q hc hr he H locs cells slots ls ad hm hl hx hbc hbs
  obtain ⟨hx1, hb9, hr1, hml1, hown1, hts1, hlk1, htb1, hlt1, hin1, hK1, hN1, hSR1, hAO1, hC1, hA1⟩ := id hc
  have has : ∀ v ∈ as, clV n v := fun v hv => hl.2.2 v (List.mem_append_left _ (List.mem_reverse.mpr hv))
  have hl9 : LM ad M.2.2.1 n lv st ls := hl.stk (fun v hv => hl.2.2 v (List.mem_append_right _ hv))
  have hMet := hM l hlt1 G ad H.size has
  have hcw : cwM M' = Cond.codeWith M'.1 M'.2.1 M'.2.2.1 M'.2.2.2.1 M'.2.2.2.2 := by unfold cwM; rw [if_neg hM0]
  refine run_go hc hr he hm hl9 hx hbc hbs hb1 hb2 (a := (as.map (em ad)).toArray) ?_ kk kx
  refine vx_runSX (Ts := GT) (own := M.1.cls) (cc := M.2.1) (nL := M.2.2.1) (bytes := M'.2.1) (maxL := M'.2.2.1) (ret := M'.2.2.2.1) (hh := M'.2.2.2.2) (As := as.map (em ad)) ⟨hx1, hb9, hml1, hown1, hts1⟩ hMet
    (vx_cwSW (ws' := GT) as.length hts1 (fun w hw => ?_) (by rw [← hcw]; rfl) rfl rfl ⟨(notMH_spec hmh).1, (notMH_spec hmh).2, hpar⟩ (rm_ok hr hd' hmx)) ⟨picU_blind, fun U hU hW => ⟨rfl, picU_at hc hm hU hW⟩⟩ rfl (List.length_map ..) hl.1.1 stk_map0 (by show 2 * 0 + ((st.map (em ad)).map fun v => v.category).sum ≤ 8; rw [cat_map]; omega) hdg ⟨by omega, by omega⟩
  unfold va_wsS at hw
  simp only [List.cons_append, List.nil_append, List.mem_cons] at hw
  rcases hw with rfl | rfl | rfl | hw
  · exact ⟨hw1, good_of_word (GT_good _ hw1)⟩
  · exact ⟨hw2, good_of_word (GT_good _ hw2)⟩
  · exact ⟨hw4, good_of_word (GT_good _ hw4)⟩
  · exact wsM_GT hw5 w hw
/-- a constructor -/
theorem sw_callI {b : Nat} (hdg : decode M.2.1 pc = .ok (.invokespecial idx, 3)) (hw1 : Cond.methodLink M.1.cls idx M'.1 ∈ GT) (hw2 : Cond.instanceMethod M'.1 ∈ GT) (hw4 : Cond.initialized M'.1.cls ∈ GT) (hw5 : cwM M' ∈ GT) (hnm : M'.1.name = "<init>") (hret : M'.2.2.2.1 = none) (hmh : notMH M'.1 = true) (hpar : (parseMethodDescriptor M'.1.desc).map (fun d => d.parameters.length) = some as.length) (hM0 : M'.2.2.2.2 = []) (hd' : d' < d) (hmx : M'.2.2.1 ≤ 81)
    (hM : SM SR M' d' bc' bs' (.ref b :: as) h n Post') (hst : (st.map fun v => v.category).sum ≤ 8) (hb1 : bc' ≤ bc) (hb2 : bs' ≤ bs)
    (kk : ∀ v h' n', n ≤ n' → Post' (.inl v) h' n' → SW SR M d (bc - bc') (bs - bs') (pc + 3) lv (v.toList ++ st) h' n' Post) (kx : ∀ E h' n', n ≤ n' → Post' (.inr E) h' n' → SWX SR M d (bc - bc') (bs - bs') pc lv E h' n' Post) : SW SR M d bc bs pc lv (as.reverse ++ .ref b :: st) h n Post := by
  intro G p l e R s m args below meth c A ad0 n0 Q hc hr he H locs cells slots ls ad hm hl hx hbc hbs
  obtain ⟨hx1, hb9, hr1, hml1, hown1, hts1, hlk1, htb1, hlt1, hin1, hK1, hN1, hSR1, hAO1, hC1, hA1⟩ := id hc
  have has : ∀ v ∈ Value.ref b :: as, clV n v := fun v hv => (List.mem_cons.mp hv).elim (fun q => by rw [q]; exact hl.2.2 _ (List.mem_append_right _ List.mem_cons_self)) (fun q => hl.2.2 v (List.mem_append_left _ (List.mem_reverse.mpr q)))
  have hl9 : LM ad M.2.2.1 n lv st ls := hl.stk (fun v hv => hl.2.2 v (List.mem_append_right _ (List.mem_cons_of_mem _ hv)))
  have hMet := hM l hlt1 G ad H.size has
  have hcw : cwM M' = Cond.code M'.1 M'.2.1 M'.2.2.1 none := by unfold cwM; rw [if_pos hM0, hret]
  refine run_go hc hr he hm hl9 hx hbc hbs hb1 hb2 (a := ((Value.ref (ad b) :: as.map (em ad))).toArray) ?_ kk kx
  exact vx_runI (Ts := GT) (own := M.1.cls) (cc := M.2.1) (nL := M.2.2.1) (bytes := M'.2.1) (maxL := M'.2.2.1) (As := as.map (em ad)) ⟨hx1, hb9, hml1, hown1, hts1⟩ hMet
    (cwI (ws' := GT) as.length hts1 (wsM_GT hw5) (by rw [← hcw]; rfl) rfl rfl (hts1 _ hw4) (hts1 _ hw1) (hts1 _ hw2) hnm ⟨(notMH_spec hmh).1, (notMH_spec hmh).2, hpar⟩ (rm_ok hr hd' hmx)) ⟨picU_blind, fun U hU hW => ⟨rfl, picU_at hc hm hU hW⟩⟩ rfl (List.length_map ..) hl.1.1 stk_map (by show 2 * 0 + ((st.map (em ad)).map fun v => v.category).sum ≤ 8; rw [cat_map]; omega) hdg ⟨by omega, by omega⟩
/-- a private constructor of a nest mate -/
theorem sw_callIN {b : Nat} {host : String} (hdg : decode M.2.1 pc = .ok (.invokespecial idx, 3)) (hw1 : Cond.methodLinkNest M.1.cls idx M'.1 host ∈ NW) (hw2 : Cond.instanceMethod M'.1 ∈ GT) (hw4 : Cond.initialized M'.1.cls ∈ GT) (hw5 : cwM M' ∈ GT) (hnm : M'.1.name = "<init>") (hret : M'.2.2.2.1 = none) (hmh : notMH M'.1 = true) (hpar : (parseMethodDescriptor M'.1.desc).map (fun d => d.parameters.length) = some as.length) (hM0 : M'.2.2.2.2 = []) (hd' : d' < d) (hmx : M'.2.2.1 ≤ 81)
    (hM : SM SR M' d' bc' bs' (.ref b :: as) h n Post') (hst : (st.map fun v => v.category).sum ≤ 8) (hb1 : bc' ≤ bc) (hb2 : bs' ≤ bs)
    (kk : ∀ v h' n', n ≤ n' → Post' (.inl v) h' n' → SW SR M d (bc - bc') (bs - bs') (pc + 3) lv (v.toList ++ st) h' n' Post) (kx : ∀ E h' n', n ≤ n' → Post' (.inr E) h' n' → SWX SR M d (bc - bc') (bs - bs') pc lv E h' n' Post) : SW SR M d bc bs pc lv (as.reverse ++ .ref b :: st) h n Post := by
  intro G p l e R s m args below meth c A ad0 n0 Q hc hr he H locs cells slots ls ad hm hl hx hbc hbs
  obtain ⟨hx1, hb9, hr1, hml1, hown1, hts1, hlk1, htb1, hlt1, hin1, hK1, hN1, hSR1, hAO1, hC1, hA1⟩ := id hc
  have has : ∀ v ∈ Value.ref b :: as, clV n v := fun v hv => (List.mem_cons.mp hv).elim (fun q => by rw [q]; exact hl.2.2 _ (List.mem_append_right _ List.mem_cons_self)) (fun q => hl.2.2 v (List.mem_append_left _ (List.mem_reverse.mpr q)))
  have hl9 : LM ad M.2.2.1 n lv st ls := hl.stk (fun v hv => hl.2.2 v (List.mem_append_right _ (List.mem_cons_of_mem _ hv)))
  have hMet := hM l hlt1 G ad H.size has
  have hcw : cwM M' = Cond.code M'.1 M'.2.1 M'.2.2.1 none := by unfold cwM; rw [if_pos hM0, hret]
  refine run_go hc hr he hm hl9 hx hbc hbs hb1 hb2 (a := ((Value.ref (ad b) :: as.map (em ad))).toArray) ?_ kk kx
  exact vx_runIN (Ts := GT) (own := M.1.cls) (host := host) (cc := M.2.1) (nL := M.2.2.1) (bytes := M'.2.1) (maxL := M'.2.2.1) (As := as.map (em ad)) ⟨hx1, hb9, hml1, hown1, hts1⟩ hMet
    ⟨va_cnB (ws' := GT) as.length hts1 (wsM_GT hw5) (by rw [← hcw]; rfl) rfl rfl (hN1 _ hw1) (hts1 _ hw4) ⟨(notMH_spec hmh).1, (notMH_spec hmh).2, hpar⟩ (rm_ok hr hd' hmx), hnm, hts1 _ hw2⟩ ⟨picU_blind, fun U hU hW => ⟨rfl, picU_at hc hm hU hW⟩⟩ rfl (List.length_map ..) hl.1.1 stk_map (by show 2 * 0 + ((st.map (em ad)).map fun v => v.category).sum ≤ 8; rw [cat_map]; omega) hdg ⟨by omega, by omega⟩
end
end
section
/-! 11.methods -/
/-! the methods; the texts; short forms of the calls -/
theorem gtm {w : Cond} {i : Nat} (h1 : lw_tbl[i]? = some w) (h2 : goodWord w = true) : w ∈ GT := List.mem_filter.mpr ⟨List.mem_of_getElem? h1, h2⟩
def MOK (M : MI) (k : Nat) : Prop := Cond.initialized M.1.cls ∈ GT ∧ cwM M ∈ GT ∧ notMH M.1 = true ∧ (parseMethodDescriptor M.1.desc).map (fun d => d.parameters.length) = some k ∧ M.2.2.1 ≤ 81
def MOKv (M : MI) (k : Nat) : Prop := MOK M k ∧ M.2.2.2.2 = [] ∧ Cond.instanceMethod M.1 ∈ GT ∧ Cond.selects M.1.cls M.1 M.1 ∈ GT
def MOKs (M : MI) (k : Nat) : Prop := MOK M k ∧ Cond.static M.1 ∈ GT
def MOKi (M : MI) (k : Nat) : Prop := MOK M k ∧ M.2.2.2.2 = [] ∧ Cond.instanceMethod M.1 ∈ GT ∧ M.1.name = "<init>" ∧ M.2.2.2.1 = none
/-- one end, as said -/
def Det (r : ARes) (h : AH) (n : Nat) : ARes → AH → Nat → Prop := fun r' h' n' => r' = r ∧ h' = h ∧ n' = n
section
variable {SR : SRT} {M M' : MI} {d d' bc bs bc' bs' pc idx n : Nat} {lv : List (Nat × Value)} {st as : List Value} {h : AH} {Post Post' : ARes → AH → Nat → Prop}
theorem sw_nm (k : ∀ h', h' = h → SW SR M d bc bs pc lv st h' n Post) : SW SR M d bc bs pc lv st h n Post := k h rfl
theorem sw_V {b ci : Nat} {fs : List Value} (hdg : decode M.2.1 pc = .ok (.invokevirtual idx, 3)) (hw1 : Cond.methodLink M.1.cls idx M'.1 ∈ GT) (ok : MOKv M' as.length) (hM : SM SR M' d' bc' bs' (.ref b :: as) h n Post') (hb : h b = .inr (ci, fs)) (hci : CN ci = M'.1.cls) (hd' : d' < d) (hst : (st.map fun v => v.category).sum ≤ 8) (hb1 : bc' ≤ bc) (hb2 : bs' ≤ bs)
    (kx : ∀ E h' n', n ≤ n' → Post' (.inr E) h' n' → SWX SR M d (bc - bc') (bs - bs') pc lv E h' n' Post) (kk : ∀ v h' n', n ≤ n' → Post' (.inl v) h' n' → SW SR M d (bc - bc') (bs - bs') (pc + 3) lv (v.toList ++ st) h' n' Post) : SW SR M d bc bs pc lv (as.reverse ++ .ref b :: st) h n Post :=
  sw_callV hdg hw1 ok.2.2.1 ok.2.2.2 ok.1.1 ok.1.2.1 ok.1.2.2.1 ok.1.2.2.2.1 ok.2.1 hd' ok.1.2.2.2.2 hM hb hci hst hb1 hb2 kk kx
theorem sw_S (hdg : decode M.2.1 pc = .ok (.invokestatic idx, 3)) (hw1 : Cond.methodLink M.1.cls idx M'.1 ∈ GT) (ok : MOKs M' as.length) (hM : SM SR M' d' bc' bs' as h n Post') (hd' : d' < d) (hst : (st.map fun v => v.category).sum ≤ 8) (hb1 : bc' ≤ bc) (hb2 : bs' ≤ bs)
    (kx : ∀ E h' n', n ≤ n' → Post' (.inr E) h' n' → SWX SR M d (bc - bc') (bs - bs') pc lv E h' n' Post) (kk : ∀ v h' n', n ≤ n' → Post' (.inl v) h' n' → SW SR M d (bc - bc') (bs - bs') (pc + 3) lv (v.toList ++ st) h' n' Post) : SW SR M d bc bs pc lv (as.reverse ++ st) h n Post := by
  by_cases q : M'.2.2.2.2 = []
  · exact sw_callS hdg hw1 ok.2 ok.1.1 ok.1.2.1 ok.1.2.2.1 ok.1.2.2.2.1 q hd' ok.1.2.2.2.2 hM hst hb1 hb2 kk kx
  · exact sw_callSH hdg hw1 ok.2 ok.1.1 ok.1.2.1 ok.1.2.2.1 ok.1.2.2.2.1 q hd' ok.1.2.2.2.2 hM hst hb1 hb2 kk kx
theorem sw_I {b : Nat} (hdg : decode M.2.1 pc = .ok (.invokespecial idx, 3)) (hw1 : Cond.methodLink M.1.cls idx M'.1 ∈ GT) (ok : MOKi M' as.length) (hM : SM SR M' d' bc' bs' (.ref b :: as) h n Post') (hd' : d' < d) (hst : (st.map fun v => v.category).sum ≤ 8) (hb1 : bc' ≤ bc) (hb2 : bs' ≤ bs)
    (kx : ∀ E h' n', n ≤ n' → Post' (.inr E) h' n' → SWX SR M d (bc - bc') (bs - bs') pc lv E h' n' Post) (kk : ∀ v h' n', n ≤ n' → Post' (.inl v) h' n' → SW SR M d (bc - bc') (bs - bs') (pc + 3) lv (v.toList ++ st) h' n' Post) : SW SR M d bc bs pc lv (as.reverse ++ .ref b :: st) h n Post :=
  sw_callI hdg hw1 ok.2.2.1 ok.1.1 ok.1.2.1 ok.2.2.2.1 ok.2.2.2.2 ok.1.2.2.1 ok.1.2.2.2.1 ok.2.1 hd' ok.1.2.2.2.2 hM hst hb1 hb2 kk kx
end
/-- a callee that comes to one end: the row behind the call -/
theorem det_k {A : Nat → AH → Option Value → Prop} {r : Option Value} {h0 : AH} {n0 n : Nat} (k : A n0 h0 r) : ∀ (v : Option Value) (h' : AH) (n' : Nat), n ≤ n' → Det (.inl r) h0 n0 (.inl v) h' n' → A n' h' v := by
  rintro v h' n' - ⟨e1, rfl, rfl⟩
  cases e1
  exact k
theorem det_x {A : Prop} {r : Option Value} {h0 : AH} {n0 : Nat} {E : String} {h' : AH} {n' : Nat} (z : Det (.inl r) h0 n0 (.inr E) h' n') : A := by cases z.1

def MX1_init : MI := (yX1_init, cX1_init, 2, (Option.none : Option Jvm.ClassFile.FieldType), [])
def MX1_isOfTable : MI := (yX1_isOfTable, cX1_isOfTable, 1, (Option.some Jvm.ClassFile.FieldType.boolean), [])
def MX1_takesIn : MI := (yX1_takesIn, cX1_takesIn, 2, (Option.some Jvm.ClassFile.FieldType.boolean), [])
def MX1_thingAt : MI := (yX1_thingAt, cX1_thingAt, 2, (Option.some Jvm.ClassFile.FieldType.int), [])
def MX1_firstPlace : MI := (yX1_firstPlace, cX1_firstPlace, 3, (Option.some Jvm.ClassFile.FieldType.int), [])
def MX1_lastPlace : MI := (yX1_lastPlace, cX1_lastPlace, 3, (Option.some Jvm.ClassFile.FieldType.int), [])
def MX1_holds : MI := (yX1_holds, cX1_holds, 2, (Option.some Jvm.ClassFile.FieldType.boolean), [])
def MX1_countOf : MI := (yX1_countOf, cX1_countOf, 4, (Option.some Jvm.ClassFile.FieldType.int), [])
def MX1_risingPlace : MI := (yX1_risingPlace, cX1_risingPlace, 3, (Option.some Jvm.ClassFile.FieldType.int), [])
def MX1_layDown : MI := (yX1_layDown, cX1_layDown, 2, (Option.some Jvm.ClassFile.FieldType.boolean), [])
def MX1_layAhead : MI := (yX1_layAhead, cX1_layAhead, 4, (Option.some Jvm.ClassFile.FieldType.boolean), [])
def MX1_lift : MI := (yX1_lift, cX1_lift, 4, (Option.some Jvm.ClassFile.FieldType.int), [])
def MX1_liftAll : MI := (yX1_liftAll, cX1_liftAll, 1, (Option.none : Option Jvm.ClassFile.FieldType), [])
def MX1_exchange : MI := (yX1_exchange, cX1_exchange, 4, (Option.some Jvm.ClassFile.FieldType.int), [])
def MX1_reverse : MI := (yX1_reverse, cX1_reverse, 5, (Option.none : Option Jvm.ClassFile.FieldType), [])
def MX1_moveOn : MI := (yX1_moveOn, cX1_moveOn, 2, (Option.none : Option Jvm.ClassFile.FieldType), [])
def MX1_becomeListOf : MI := (yX1_becomeListOf, cX1_becomeListOf, 5, (Option.none : Option Jvm.ClassFile.FieldType), [])
def MX1_rises : MI := (yX1_rises, cX1_rises, 2, (Option.some Jvm.ClassFile.FieldType.boolean), [])
def MX1_hasEachOnce : MI := (yX1_hasEachOnce, cX1_hasEachOnce, 2, (Option.some Jvm.ClassFile.FieldType.boolean), [])
def MX2_init : MI := (yX2_init, cX2_init, 2, (Option.none : Option Jvm.ClassFile.FieldType), [])
def MX2_begin : MI := (yX2_begin, cX2_begin, 4, (Option.none : Option Jvm.ClassFile.FieldType), [])
def MX2_isStale : MI := (yX2_isStale, cX2_isStale, 1, (Option.some Jvm.ClassFile.FieldType.boolean), [])
def MX2_ahead : MI := (yX2_ahead, cX2_ahead, 1, (Option.some Jvm.ClassFile.FieldType.int), [])
def MX2_hasMore : MI := (yX2_hasMore, cX2_hasMore, 1, (Option.some Jvm.ClassFile.FieldType.boolean), [])
def MX2_canGiveAll : MI := (yX2_canGiveAll, cX2_canGiveAll, 1, (Option.some Jvm.ClassFile.FieldType.boolean), [])
def MX2_canTakeOut : MI := (yX2_canTakeOut, cX2_canTakeOut, 1, (Option.some Jvm.ClassFile.FieldType.boolean), [])
def MX2_give : MI := (yX2_give, cX2_give, 2, (Option.some Jvm.ClassFile.FieldType.int), [])
def MX2_giveUpTo : MI := (yX2_giveUpTo, cX2_giveUpTo, 3, (Option.some Jvm.ClassFile.FieldType.int), [])
def MX2_tookOut : MI := (yX2_tookOut, cX2_tookOut, 1, (Option.none : Option Jvm.ClassFile.FieldType), [])
def MX3_init : MI := (yX3_init, cX3_init, 2, (Option.none : Option Jvm.ClassFile.FieldType), [])
def MX3_put : MI := (yX3_put, cX3_put, 4, (Option.some Jvm.ClassFile.FieldType.int), [])
def MX3_putAll : MI := (yX3_putAll, cX3_putAll, 10, (Option.some Jvm.ClassFile.FieldType.int), [])
def MX3_take : MI := (yX3_take, cX3_take, 5, (Option.some Jvm.ClassFile.FieldType.int), [])
def MX3_clear : MI := (yX3_clear, cX3_clear, 4, (Option.some Jvm.ClassFile.FieldType.int), [])
def MX3_pair : MI := (yX3_pair, cX3_pair, 6, (Option.some Jvm.ClassFile.FieldType.int), [])
def MX3_pour : MI := (yX3_pour, cX3_pour, 5, (Option.some Jvm.ClassFile.FieldType.int), [])
def MX3_change : MI := (yX3_change, cX3_change, 5, (Option.some Jvm.ClassFile.FieldType.int), [])
def MX3_insert : MI := (yX3_insert, cX3_insert, 5, (Option.some Jvm.ClassFile.FieldType.int), [])
def MX3_remove : MI := (yX3_remove, cX3_remove, 4, (Option.some Jvm.ClassFile.FieldType.int), [])
def MX3_turn : MI := (yX3_turn, cX3_turn, 3, (Option.some Jvm.ClassFile.FieldType.int), [])
def MX3_rotate : MI := (yX3_rotate, cX3_rotate, 4, (Option.some Jvm.ClassFile.FieldType.int), [])
def MX3_swap : MI := (yX3_swap, cX3_swap, 5, (Option.some Jvm.ClassFile.FieldType.int), [])
def MX3_fill : MI := (yX3_fill, cX3_fill, 5, (Option.some Jvm.ClassFile.FieldType.int), [])
def MX3_replace : MI := (yX3_replace, cX3_replace, 7, (Option.some Jvm.ClassFile.FieldType.int), [])
def MX3_copies : MI := (yX3_copies, cX3_copies, 6, (Option.some Jvm.ClassFile.FieldType.int), [])
def MX3_walk : MI := (yX3_walk, cX3_walk, 6, (Option.some Jvm.ClassFile.FieldType.int), [])
def MX3_next : MI := (yX3_next, cX3_next, 3, (Option.some Jvm.ClassFile.FieldType.int), [])
def MX3_more : MI := (yX3_more, cX3_more, 3, (Option.some Jvm.ClassFile.FieldType.int), [])
def MX3_takeOut : MI := (yX3_takeOut, cX3_takeOut, 3, (Option.some Jvm.ClassFile.FieldType.int), [])
def MX3_rest : MI := (yX3_rest, cX3_rest, 4, (Option.some (Jvm.ClassFile.FieldType.object "java/lang/String")), [])
def MX3_keepRest : MI := (yX3_keepRest, cX3_keepRest, 5, (Option.some Jvm.ClassFile.FieldType.int), [])
def MX3_keep : MI := (yX3_keep, cX3_keep, 4, (Option.some Jvm.ClassFile.FieldType.int), [])
def MX3_drop : MI := (yX3_drop, cX3_drop, 4, (Option.some Jvm.ClassFile.FieldType.int), [])
def MX3_skip : MI := (yX3_skip, cX3_skip, 4, (Option.some Jvm.ClassFile.FieldType.int), [])
def MX3_pourRest : MI := (yX3_pourRest, cX3_pourRest, 7, (Option.some Jvm.ClassFile.FieldType.int), [])
def MX3_zip : MI := (yX3_zip, cX3_zip, 7, (Option.some (Jvm.ClassFile.FieldType.object "java/lang/String")), [])
def MX3_text : MI := (yX3_text, cX3_text, 2, (Option.some (Jvm.ClassFile.FieldType.object "java/lang/String")), [])
def MX3_list : MI := (yX3_list, cX3_list, 2, (Option.some (Jvm.ClassFile.FieldType.object "java/lang/String")), [])
def MX3_size : MI := (yX3_size, cX3_size, 2, (Option.some Jvm.ClassFile.FieldType.int), [])
def MX3_isEmpty : MI := (yX3_isEmpty, cX3_isEmpty, 2, (Option.some Jvm.ClassFile.FieldType.boolean), [])
def MX3_has : MI := (yX3_has, cX3_has, 4, (Option.some Jvm.ClassFile.FieldType.int), [])
def MX3_often : MI := (yX3_often, cX3_often, 4, (Option.some Jvm.ClassFile.FieldType.int), [])
def MX3_placeOf : MI := (yX3_placeOf, cX3_placeOf, 5, (Option.some Jvm.ClassFile.FieldType.int), [])
def MX3_disjoint : MI := (yX3_disjoint, cX3_disjoint, 6, (Option.some Jvm.ClassFile.FieldType.int), [])
def MX3_end : MI := (yX3_end, cX3_end, 7, (Option.some Jvm.ClassFile.FieldType.int), [])
def MX3_code : MI := (yX3_code, cX3_code, 6, (Option.some Jvm.ClassFile.FieldType.int), [])
def MX3_areAlike : MI := (yX3_areAlike, cX3_areAlike, 5, (Option.some Jvm.ClassFile.FieldType.boolean), [])
def MX3_first : MI := (yX3_first, cX3_first, 4, (Option.some Jvm.ClassFile.FieldType.int), [])
def MX3_valueOf : MI := (yX3_valueOf, cX3_valueOf, 3, (Option.some Jvm.ClassFile.FieldType.int), [])
def MX3_ofWalk : MI := (yX3_ofWalk, cX3_ofWalk, 4, (Option.some Jvm.ClassFile.FieldType.int), [])
def MX3_house : MI := (yX3_house, cX3_house, 2, (Option.some Jvm.ClassFile.FieldType.int), [])
def MX3_knock : MI := (yX3_knock, cX3_knock, 1, (Option.some Jvm.ClassFile.FieldType.int), [])
def MX3_isSound : MI := (yX3_isSound, cX3_isSound, 2, (Option.some Jvm.ClassFile.FieldType.boolean), [])
def MX3_digest : MI := (yX3_digest, cX3_digest, 6, (Option.some Jvm.ClassFile.FieldType.long), [])
def MX3_shelfAt : MI := (yX3_shelfAt, cX3_shelfAt, 2, (Option.some (Jvm.ClassFile.FieldType.object "Overwalks$Shelf")), [])
def MX3_rowAt : MI := (yX3_rowAt, cX3_rowAt, 3, (Option.some (Jvm.ClassFile.FieldType.object "Overwalks$Shelf")), [])
def MX3_listAt : MI := (yX3_listAt, cX3_listAt, 2, (Option.some (Jvm.ClassFile.FieldType.object "Overwalks$Shelf")), [])
def MX3_walkAt : MI := (yX3_walkAt, cX3_walkAt, 2, (Option.some (Jvm.ClassFile.FieldType.object "Overwalks$Walk")), [])
def MX3_requireMade : MI := (yX3_requireMade, cX3_requireMade, 1, (Option.none : Option Jvm.ClassFile.FieldType), [])
def MX3_requirePlace : MI := (yX3_requirePlace, cX3_requirePlace, 2, (Option.none : Option Jvm.ClassFile.FieldType), [])
def MX3_requireThing : MI := (yX3_requireThing, cX3_requireThing, 1, (Option.none : Option Jvm.ClassFile.FieldType), [])
def MX3_requireThingOrNothing : MI := (yX3_requireThingOrNothing, cX3_requireThingOrNothing, 1, (Option.none : Option Jvm.ClassFile.FieldType), [])
def MX3_requireThingNothingOrNone : MI := (yX3_requireThingNothingOrNone, cX3_requireThingNothingOrNone, 1, (Option.none : Option Jvm.ClassFile.FieldType), [])
def MX3_requireUpToRoom : MI := (yX3_requireUpToRoom, cX3_requireUpToRoom, 1, (Option.none : Option Jvm.ClassFile.FieldType), [])
def MX3_requireRoom : MI := (yX3_requireRoom, cX3_requireRoom, 2, (Option.none : Option Jvm.ClassFile.FieldType), [])
def MX3_refuse : MI := (yX3_refuse, cX3_refuse, 1, (Option.some Jvm.ClassFile.FieldType.int), [])
def MX3_oneIf : MI := (yX3_oneIf, cX3_oneIf, 1, (Option.some Jvm.ClassFile.FieldType.int), [])
def MX3_countToFirstNone : MI := (yX3_countToFirstNone, cX3_countToFirstNone, 5, (Option.some Jvm.ClassFile.FieldType.int), [])
def MX3_oneOfFour : MI := (yX3_oneOfFour, cX3_oneOfFour, 5, (Option.some Jvm.ClassFile.FieldType.int), [])
def MX3_liftFrom : MI := (yX3_liftFrom, cX3_liftFrom, 3, (Option.none : Option Jvm.ClassFile.FieldType), [])
def MX3_cannotPour : MI := (yX3_cannotPour, cX3_cannotPour, 2, (Option.some Jvm.ClassFile.FieldType.boolean), [])
def MX3_hasNothingsThatAreNotTaken : MI := (yX3_hasNothingsThatAreNotTaken, cX3_hasNothingsThatAreNotTaken, 2, (Option.some Jvm.ClassFile.FieldType.boolean), [])
def MX3_pourBehind : MI := (yX3_pourBehind, cX3_pourBehind, 6, (Option.some Jvm.ClassFile.FieldType.boolean), [])
def MX3_listRest : MI := (yX3_listRest, cX3_listRest, 2, (Option.some Jvm.ClassFile.FieldType.int), [])
def MX3_haveTheSame : MI := (yX3_haveTheSame, cX3_haveTheSame, 3, (Option.some Jvm.ClassFile.FieldType.boolean), [])
def MX3_textBehind : MI := (yX3_textBehind, cX3_textBehind, 4, (Option.some (Jvm.ClassFile.FieldType.object "java/lang/String")), [])
def MX3_appendBlankBehindFirst : MI := (yX3_appendBlankBehindFirst, cX3_appendBlankBehindFirst, 2, (Option.none : Option Jvm.ClassFile.FieldType), [])
def MX3_appendThing : MI := (yX3_appendThing, cX3_appendThing, 2, (Option.none : Option Jvm.ClassFile.FieldType), [])
def MX3_countThings : MI := (yX3_countThings, cX3_countThings, 3, (Option.some Jvm.ClassFile.FieldType.int), [])
def MX3_countNothings : MI := (yX3_countNothings, cX3_countNothings, 3, (Option.some Jvm.ClassFile.FieldType.int), [])
def MX3_countWalks : MI := (yX3_countWalks, cX3_countWalks, 3, (Option.some Jvm.ClassFile.FieldType.int), [])
def MX3_countStaleWalks : MI := (yX3_countStaleWalks, cX3_countStaleWalks, 3, (Option.some Jvm.ClassFile.FieldType.int), [])
def MX3_giveTheSame : MI := (yX3_giveTheSame, cX3_giveTheSame, 6, (Option.some Jvm.ClassFile.FieldType.boolean), [])
def MX3_isItsList : MI := (yX3_isItsList, cX3_isItsList, 2, (Option.some Jvm.ClassFile.FieldType.boolean), [])
def MX3_isItsListBehindOneStep : MI := (yX3_isItsListBehindOneStep, cX3_isItsListBehindOneStep, 4, (Option.some Jvm.ClassFile.FieldType.boolean), [])
def MX4_init : MI := (yX4_init, cX4_init, 1, (Option.none : Option Jvm.ClassFile.FieldType), [])
def MX5_init : MI := (yX5_init, cX5_init, 1, (Option.none : Option Jvm.ClassFile.FieldType), [])
def MX5_thrown : MI := (yX5_thrown, cX5_thrown, 1, (Option.some Jvm.ClassFile.FieldType.int), [])
def MX5_isIn : MI := (yX5_isIn, cX5_isIn, 3, (Option.some Jvm.ClassFile.FieldType.boolean), [])
def MX5_one : MI := (yX5_one, cX5_one, 1, (Option.some Jvm.ClassFile.FieldType.int), [])
def MX5_isStopped : MI := (yX5_isStopped, cX5_isStopped, 4, (Option.some Jvm.ClassFile.FieldType.boolean), [])
def MX5_isStopped_ : MI := (yX5_isStopped_, cX5_isStopped_, 3, (Option.some Jvm.ClassFile.FieldType.boolean), [])
def MX5_isStopped__ : MI := (yX5_isStopped__, cX5_isStopped__, 2, (Option.some Jvm.ClassFile.FieldType.boolean), [])
def MX5_no : MI := (yX5_no, cX5_no, 1, (Option.some Jvm.ClassFile.FieldType.int), [])
def MX5_noText : MI := (yX5_noText, cX5_noText, 1, (Option.some (Jvm.ClassFile.FieldType.object "java/lang/String")), [])
def MX5_isNone : MI := (yX5_isNone, cX5_isNone, 1, (Option.some Jvm.ClassFile.FieldType.boolean), [])
def MX5_isNoRow : MI := (yX5_isNoRow, cX5_isNoRow, 1, (Option.some Jvm.ClassFile.FieldType.boolean), [])
def MX5_isNoList : MI := (yX5_isNoList, cX5_isNoList, 1, (Option.some Jvm.ClassFile.FieldType.boolean), [])
def MX5_isNoThing : MI := (yX5_isNoThing, cX5_isNoThing, 1, (Option.some Jvm.ClassFile.FieldType.boolean), [])
def MX5_isTable : MI := (yX5_isTable, cX5_isTable, 1, (Option.some Jvm.ClassFile.FieldType.boolean), [])
def MX5_takesNothing : MI := (yX5_takesNothing, cX5_takesNothing, 1, (Option.some Jvm.ClassFile.FieldType.boolean), [])
def MX5_isNoPlace : MI := (yX5_isNoPlace, cX5_isNoPlace, 3, (Option.some Jvm.ClassFile.FieldType.boolean), [])
def MX5_hasNothing : MI := (yX5_hasNothing, cX5_hasNothing, 2, (Option.some Jvm.ClassFile.FieldType.boolean), [])
def MX5_count : MI := (yX5_count, cX5_count, 5, (Option.some Jvm.ClassFile.FieldType.int), [])
def MX5_firstPlace : MI := (yX5_firstPlace, cX5_firstPlace, 5, (Option.some Jvm.ClassFile.FieldType.int), [])
def MX5_comeAt : MI := (yX5_comeAt, cX5_comeAt, 5, (Option.none : Option Jvm.ClassFile.FieldType), [])
def MX5_goAt : MI := (yX5_goAt, cX5_goAt, 4, (Option.none : Option Jvm.ClassFile.FieldType), [])
def MX5_leave : MI := (yX5_leave, cX5_leave, 3, (Option.none : Option Jvm.ClassFile.FieldType), [])
def MX5_come : MI := (yX5_come, cX5_come, 4, (Option.some Jvm.ClassFile.FieldType.boolean), [])
def MX5_comeAll : MI := (yX5_comeAll, cX5_comeAll, 6, (Option.some Jvm.ClassFile.FieldType.int), [])
def MX5_picture : MI := (yX5_picture, cX5_picture, 5, (Option.some (Jvm.ClassFile.FieldType.array Jvm.ClassFile.FieldType.int)), [])
def MX5_empty : MI := (yX5_empty, cX5_empty, 2, (Option.none : Option Jvm.ClassFile.FieldType), [])
def MX5_put : MI := (yX5_put, cX5_put, 3, (Option.some Jvm.ClassFile.FieldType.int), [])
def MX5_putAll : MI := (yX5_putAll, cX5_putAll, 12, (Option.some Jvm.ClassFile.FieldType.int), [])
def MX5_take : MI := (yX5_take, cX5_take, 4, (Option.some Jvm.ClassFile.FieldType.int), [])
def MX5_clear : MI := (yX5_clear, cX5_clear, 3, (Option.some Jvm.ClassFile.FieldType.int), [])
def MX5_pair : MI := (yX5_pair, cX5_pair, 5, (Option.some Jvm.ClassFile.FieldType.int), [])
def MX5_pour : MI := (yX5_pour, cX5_pour, 4, (Option.some Jvm.ClassFile.FieldType.int), [])
def MX5_change : MI := (yX5_change, cX5_change, 5, (Option.some Jvm.ClassFile.FieldType.int), [])
def MX5_insert : MI := (yX5_insert, cX5_insert, 4, (Option.some Jvm.ClassFile.FieldType.int), [])
def MX5_remove : MI := (yX5_remove, cX5_remove, 4, (Option.some Jvm.ClassFile.FieldType.int), [])
def MX5_turn : MI := (yX5_turn, cX5_turn, 4, (Option.some Jvm.ClassFile.FieldType.int), [])
def MX5_rotate : MI := (yX5_rotate, cX5_rotate, 5, (Option.some Jvm.ClassFile.FieldType.int), [])
def MX5_swap : MI := (yX5_swap, cX5_swap, 5, (Option.some Jvm.ClassFile.FieldType.int), [])
def MX5_fill : MI := (yX5_fill, cX5_fill, 4, (Option.some Jvm.ClassFile.FieldType.int), [])
def MX5_replace : MI := (yX5_replace, cX5_replace, 6, (Option.some Jvm.ClassFile.FieldType.int), [])
def MX5_copies : MI := (yX5_copies, cX5_copies, 5, (Option.some Jvm.ClassFile.FieldType.int), [])
def MX5_isNoWalk : MI := (yX5_isNoWalk, cX5_isNoWalk, 1, (Option.some Jvm.ClassFile.FieldType.boolean), [])
def MX5_isUnmade : MI := (yX5_isUnmade, cX5_isUnmade, 2, (Option.some Jvm.ClassFile.FieldType.boolean), [])
def MX5_isStale : MI := (yX5_isStale, cX5_isStale, 2, (Option.some Jvm.ClassFile.FieldType.boolean), [])
def MX5_hasMore : MI := (yX5_hasMore, cX5_hasMore, 2, (Option.some Jvm.ClassFile.FieldType.boolean), [])
def MX5_give : MI := (yX5_give, cX5_give, 3, (Option.some Jvm.ClassFile.FieldType.int), [])
def MX5_walk : MI := (yX5_walk, cX5_walk, 4, (Option.some Jvm.ClassFile.FieldType.int), [])
def MX5_next : MI := (yX5_next, cX5_next, 2, (Option.some Jvm.ClassFile.FieldType.int), [])
def MX5_more : MI := (yX5_more, cX5_more, 2, (Option.some Jvm.ClassFile.FieldType.int), [])
def MX5_takeOut : MI := (yX5_takeOut, cX5_takeOut, 2, (Option.some Jvm.ClassFile.FieldType.int), [])
def MX5_left : MI := (yX5_left, cX5_left, 4, (Option.some (Jvm.ClassFile.FieldType.array Jvm.ClassFile.FieldType.int)), [])
def MX5_sign : MI := (yX5_sign, cX5_sign, 1, (Option.some (Jvm.ClassFile.FieldType.object "java/lang/String")), [])
def MX5_text : MI := (yX5_text, cX5_text, 3, (Option.some (Jvm.ClassFile.FieldType.object "java/lang/String")), [])
def MX5_rest : MI := (yX5_rest, cX5_rest, 2, (Option.some (Jvm.ClassFile.FieldType.object "java/lang/String")), [])
def MX5_made : MI := (yX5_made, cX5_made, 4, (Option.some Jvm.ClassFile.FieldType.int), [])
def MX5_keepRest : MI := (yX5_keepRest, cX5_keepRest, 3, (Option.some Jvm.ClassFile.FieldType.int), [])
def MX5_keep : MI := (yX5_keep, cX5_keep, 3, (Option.some Jvm.ClassFile.FieldType.int), [])
def MX5_drop : MI := (yX5_drop, cX5_drop, 3, (Option.some Jvm.ClassFile.FieldType.int), [])
def MX5_skip : MI := (yX5_skip, cX5_skip, 4, (Option.some Jvm.ClassFile.FieldType.int), [])
def MX5_pourRest : MI := (yX5_pourRest, cX5_pourRest, 5, (Option.some Jvm.ClassFile.FieldType.int), [])
def MX5_zip : MI := (yX5_zip, cX5_zip, 4, (Option.some (Jvm.ClassFile.FieldType.object "java/lang/String")), [])
def MX5_text_ : MI := (yX5_text_, cX5_text_, 2, (Option.some (Jvm.ClassFile.FieldType.object "java/lang/String")), [])
def MX5_list : MI := (yX5_list, cX5_list, 2, (Option.some (Jvm.ClassFile.FieldType.object "java/lang/String")), [])
def MX5_size : MI := (yX5_size, cX5_size, 2, (Option.some Jvm.ClassFile.FieldType.int), [])
def MX5_isEmpty : MI := (yX5_isEmpty, cX5_isEmpty, 2, (Option.some Jvm.ClassFile.FieldType.boolean), [])
def MX5_has : MI := (yX5_has, cX5_has, 3, (Option.some Jvm.ClassFile.FieldType.int), [])
def MX5_often : MI := (yX5_often, cX5_often, 3, (Option.some Jvm.ClassFile.FieldType.int), [])
def MX5_placeOf : MI := (yX5_placeOf, cX5_placeOf, 6, (Option.some Jvm.ClassFile.FieldType.int), [])
def MX5_disjoint : MI := (yX5_disjoint, cX5_disjoint, 5, (Option.some Jvm.ClassFile.FieldType.int), [])
def MX5_end : MI := (yX5_end, cX5_end, 5, (Option.some Jvm.ClassFile.FieldType.int), [])
def MX5_code : MI := (yX5_code, cX5_code, 4, (Option.some Jvm.ClassFile.FieldType.int), [])
def MX5_areAlike : MI := (yX5_areAlike, cX5_areAlike, 5, (Option.some Jvm.ClassFile.FieldType.boolean), [])
def MX5_first : MI := (yX5_first, cX5_first, 3, (Option.some Jvm.ClassFile.FieldType.int), [])
def MX5_valueOf : MI := (yX5_valueOf, cX5_valueOf, 3, (Option.some Jvm.ClassFile.FieldType.int), [])
def MX5_told : MI := (yX5_told, cX5_told, 4, (Option.some Jvm.ClassFile.FieldType.int), [])
def MX5_ofWalk : MI := (yX5_ofWalk, cX5_ofWalk, 3, (Option.some Jvm.ClassFile.FieldType.int), [])
def MX5_houseTold : MI := (yX5_houseTold, cX5_houseTold, 7, (Option.some Jvm.ClassFile.FieldType.int), [])
def MX5_house : MI := (yX5_house, cX5_house, 2, (Option.some Jvm.ClassFile.FieldType.int), [])
def MX5_knock : MI := (yX5_knock, cX5_knock, 1, (Option.some Jvm.ClassFile.FieldType.int), [])
def MX5_isSound : MI := (yX5_isSound, cX5_isSound, 1, (Option.some Jvm.ClassFile.FieldType.boolean), [])
def MX5_digest : MI := (yX5_digest, cX5_digest, 5, (Option.some Jvm.ClassFile.FieldType.long), [])
def MJ5_init_d00df : MI := (yJ5_init_d00df, cJ5_init_d00df, 2, (Option.none : Option Jvm.ClassFile.FieldType), [])
def MJ5_length_8abf5 : MI := (yJ5_length_8abf5, cJ5_length_8abf5, 1, (Option.some Jvm.ClassFile.FieldType.int), [])
def MJ5_ensureCapacityInternal_d00df : MI := (yJ5_ensureCapacityInternal_d00df, cJ5_ensureCapacityInternal_d00df, 3, (Option.none : Option Jvm.ClassFile.FieldType), [])
def MJ5_newCapacity_0f7a4 : MI := (yJ5_newCapacity_0f7a4, cJ5_newCapacity_0f7a4, 6, (Option.some Jvm.ClassFile.FieldType.int), [])
def MJ5_inflate_da8c8 : MI := (yJ5_inflate_da8c8, cJ5_inflate_da8c8, 2, (Option.none : Option Jvm.ClassFile.FieldType), [])
def MJ5_append_cf1ce : MI := (yJ5_append_cf1ce, cJ5_append_cf1ce, 3, (Option.some (Jvm.ClassFile.FieldType.object "java/lang/AbstractStringBuilder")), [])
def MJ5_appendNull_278bc : MI := (yJ5_appendNull_278bc, cJ5_appendNull_278bc, 3, (Option.some (Jvm.ClassFile.FieldType.object "java/lang/AbstractStringBuilder")), [])
def MJ5_append_3fe6f : MI := (yJ5_append_3fe6f, cJ5_append_3fe6f, 2, (Option.some (Jvm.ClassFile.FieldType.object "java/lang/AbstractStringBuilder")), [])
def MJ5_append_c97b9 : MI := (yJ5_append_c97b9, cJ5_append_c97b9, 4, (Option.some (Jvm.ClassFile.FieldType.object "java/lang/AbstractStringBuilder")), [])
def MJ5_getValue_6d5f1 : MI := (yJ5_getValue_6d5f1, cJ5_getValue_6d5f1, 1, (Option.some (Jvm.ClassFile.FieldType.array Jvm.ClassFile.FieldType.byte)), [])
def MJ5_isLatin1_aae02 : MI := (yJ5_isLatin1_aae02, cJ5_isLatin1_aae02, 1, (Option.some Jvm.ClassFile.FieldType.boolean), [])
def MJ5_inflateIfNeededFor_a7421 : MI := (yJ5_inflateIfNeededFor_a7421, cJ5_inflateIfNeededFor_a7421, 2, (Option.none : Option Jvm.ClassFile.FieldType), [])
def MJ5_putStringAt_47b60 : MI := (yJ5_putStringAt_47b60, cJ5_putStringAt_47b60, 3, (Option.none : Option Jvm.ClassFile.FieldType), [])
def MJ6_getChars_ba4f3 : MI := (yJ6_getChars_ba4f3, cJ6_getChars_ba4f3, 7, (Option.some Jvm.ClassFile.FieldType.int), [])
def MJ6_stringSize_0f7a4 : MI := (yJ6_stringSize_0f7a4, cJ6_stringSize_0f7a4, 4, (Option.some Jvm.ClassFile.FieldType.int), [])
def MJ9_floorMod_7cf53 : MI := (yJ9_floorMod_7cf53, cJ9_floorMod_7cf53, 3, (Option.some Jvm.ClassFile.FieldType.int), [])
def MJ9_max_7cf53 : MI := (yJ9_max_7cf53, cJ9_max_7cf53, 2, (Option.some Jvm.ClassFile.FieldType.int), [])
def MJ9_min_7cf53 : MI := (yJ9_min_7cf53, cJ9_min_7cf53, 2, (Option.some Jvm.ClassFile.FieldType.int), [])
def MJ0_init_81219 : MI := (yJ0_init_81219, cJ0_init_81219, 2, (Option.none : Option Jvm.ClassFile.FieldType), [])
def MJ0_length_8abf5 : MI := (yJ0_length_8abf5, cJ0_length_8abf5, 1, (Option.some Jvm.ClassFile.FieldType.int), [])
def MJ0_isEmpty_aae02 : MI := (yJ0_isEmpty_aae02, cJ0_isEmpty_aae02, 1, (Option.some Jvm.ClassFile.FieldType.boolean), [])
def MJ0_getBytes_840e7 : MI := (yJ0_getBytes_840e7, cJ0_getBytes_840e7, 4, (Option.none : Option Jvm.ClassFile.FieldType), [])
def MJ0_init_db425 : MI := (yJ0_init_db425, cJ0_init_db425, 5, (Option.none : Option Jvm.ClassFile.FieldType), [])
def MJ0_coder_7d493 : MI := (yJ0_coder_7d493, cJ0_coder_7d493, 1, (Option.some Jvm.ClassFile.FieldType.byte), [])
def MJ0_checkIndex_df160 : MI := (yJ0_checkIndex_df160, cJ0_checkIndex_df160, 2, (Option.none : Option Jvm.ClassFile.FieldType), [])
def MJ0_checkBoundsOffCount_cabcc : MI := (yJ0_checkBoundsOffCount_cabcc, cJ0_checkBoundsOffCount_cabcc, 3, (Option.some Jvm.ClassFile.FieldType.int), [])
def MJ0_checkBoundsBeginEnd_23922 : MI := (yJ0_checkBoundsBeginEnd_23922, cJ0_checkBoundsBeginEnd_23922, 3, (Option.none : Option Jvm.ClassFile.FieldType), [])
def MJ4_init_da8c8 : MI := (yJ4_init_da8c8, cJ4_init_da8c8, 1, (Option.none : Option Jvm.ClassFile.FieldType), [])
def MJ4_append_15ec4 : MI := (yJ4_append_15ec4, cJ4_append_15ec4, 2, (Option.some (Jvm.ClassFile.FieldType.object "java/lang/StringBuilder")), [])
def MJ4_append_cf468 : MI := (yJ4_append_cf468, cJ4_append_cf468, 2, (Option.some (Jvm.ClassFile.FieldType.object "java/lang/StringBuilder")), [])
def MJ4_append_bf812 : MI := (yJ4_append_bf812, cJ4_append_bf812, 2, (Option.some (Jvm.ClassFile.FieldType.object "java/lang/StringBuilder")), [])
def MJ4_toString_0e30d : MI := (yJ4_toString_0e30d, cJ4_toString_0e30d, 1, (Option.some (Jvm.ClassFile.FieldType.object "java/lang/String")), [])
def MJ4_length_8abf5 : MI := (yJ4_length_8abf5, cJ4_length_8abf5, 1, (Option.some Jvm.ClassFile.FieldType.int), [])
def MJ1_canEncode_fc78d : MI := (yJ1_canEncode_fc78d, cJ1_canEncode_fc78d, 1, (Option.some Jvm.ClassFile.FieldType.boolean), [])
def MJ1_inflate_0e8fd : MI := (yJ1_inflate_0e8fd, cJ1_inflate_0e8fd, 5, (Option.none : Option Jvm.ClassFile.FieldType), [])
def MJ2_newBytesFor_77867 : MI := (yJ2_newBytesFor_77867, cJ2_newBytesFor_77867, 1, (Option.some (Jvm.ClassFile.FieldType.array Jvm.ClassFile.FieldType.byte)), [])
def MJ2_newBytesLength_0f7a4 : MI := (yJ2_newBytesLength_0f7a4, cJ2_newBytesLength_0f7a4, 1, (Option.some Jvm.ClassFile.FieldType.int), [])
def MJ2_putChar_b72d1 : MI := (yJ2_putChar_b72d1, cJ2_putChar_b72d1, 3, (Option.none : Option Jvm.ClassFile.FieldType), [])
def MJ2_getChar_3b067 : MI := (yJ2_getChar_3b067, cJ2_getChar_3b067, 2, (Option.some Jvm.ClassFile.FieldType.char), [])
def MJ2_length_9d52b : MI := (yJ2_length_9d52b, cJ2_length_9d52b, 1, (Option.some Jvm.ClassFile.FieldType.int), [])
def MJ2_coderFromArrayLen_85cad : MI := (yJ2_coderFromArrayLen_85cad, cJ2_coderFromArrayLen_85cad, 2, (Option.some Jvm.ClassFile.FieldType.byte), [])
def MJ2_compress_39247 : MI := (yJ2_compress_39247, cJ2_compress_39247, 6, (Option.some (Jvm.ClassFile.FieldType.array Jvm.ClassFile.FieldType.byte)), [])
def MJ2_compress_5af95 : MI := (yJ2_compress_5af95, cJ2_compress_5af95, 7, (Option.some Jvm.ClassFile.FieldType.int), [])
def MJ2_putCharSB_b72d1 : MI := (yJ2_putCharSB_b72d1, cJ2_putCharSB_b72d1, 3, (Option.none : Option Jvm.ClassFile.FieldType), [])
def MJ2_getChars_46870 : MI := (yJ2_getChars_46870, cJ2_getChars_46870, 5, (Option.some Jvm.ClassFile.FieldType.int), [])
def MJ2_putCharsAt_cd4e5 : MI := (yJ2_putCharsAt_cd4e5, cJ2_putCharsAt_cd4e5, 7, (Option.some Jvm.ClassFile.FieldType.int), [])
def MJ2_inflate_0e8fd : MI := (yJ2_inflate_0e8fd, cJ2_inflate_0e8fd, 6, (Option.none : Option Jvm.ClassFile.FieldType), [])
def MJ2_getChars_ba4f3 : MI := (yJ2_getChars_ba4f3, cJ2_getChars_ba4f3, 7, (Option.some Jvm.ClassFile.FieldType.int), [])
def MJ2_checkIndex_2214a : MI := (yJ2_checkIndex_2214a, cJ2_checkIndex_2214a, 2, (Option.none : Option Jvm.ClassFile.FieldType), [])
def MJ2_checkBoundsBeginEnd_d044e : MI := (yJ2_checkBoundsBeginEnd_d044e, cJ2_checkBoundsBeginEnd_d044e, 3, (Option.none : Option Jvm.ClassFile.FieldType), [])
def MJ2_checkBoundsOffCount_d044e : MI := (yJ2_checkBoundsOffCount_d044e, cJ2_checkBoundsOffCount_d044e, 3, (Option.none : Option Jvm.ClassFile.FieldType), [])
def MJ7_copyOf_9075b : MI := (yJ7_copyOf_9075b, cJ7_copyOf_9075b, 3, (Option.some (Jvm.ClassFile.FieldType.array Jvm.ClassFile.FieldType.byte)), [])
def MJ7_checkLength_df160 : MI := (yJ7_checkLength_df160, cJ7_checkLength_df160, 2, (Option.none : Option Jvm.ClassFile.FieldType), [])
def MJ7_copyOfRange_39247 : MI := (yJ7_copyOfRange_39247, cJ7_copyOfRange_39247, 3, (Option.some (Jvm.ClassFile.FieldType.array Jvm.ClassFile.FieldType.byte)), [])
def MJ7_copyOfRangeByte_39247 : MI := (yJ7_copyOfRangeByte_39247, cJ7_copyOfRangeByte_39247, 5, (Option.some (Jvm.ClassFile.FieldType.array Jvm.ClassFile.FieldType.byte)), [])
def MJ8_newLength_cabcc : MI := (yJ8_newLength_cabcc, cJ8_newLength_cabcc, 4, (Option.some Jvm.ClassFile.FieldType.int), [])
def MJ8_hugeLength_7cf53 : MI := (yJ8_hugeLength_7cf53, cJ8_hugeLength_7cf53, 3, (Option.some Jvm.ClassFile.FieldType.int), [])
def MJ3_checkIndex_8e157 : MI := (yJ3_checkIndex_8e157, cJ3_checkIndex_8e157, 3, (Option.some Jvm.ClassFile.FieldType.int), [])
def MJ3_checkFromToIndex_8c36e : MI := (yJ3_checkFromToIndex_8c36e, cJ3_checkFromToIndex_8c36e, 4, (Option.some Jvm.ClassFile.FieldType.int), [])
def MJ3_checkFromIndexSize_8c36e : MI := (yJ3_checkFromIndexSize_8c36e, cJ3_checkFromIndexSize_8c36e, 4, (Option.some Jvm.ClassFile.FieldType.int), [])
def ML_put : MI := (yL_put, cL_put, 5, (Option.some Jvm.ClassFile.FieldType.int), [((0 : Nat), (11 : Nat), (14 : Nat), (19 : Nat)), ((0 : Nat), (11 : Nat), (18 : Nat), (21 : Nat)), ((0 : Nat), (11 : Nat), (22 : Nat), (23 : Nat))])
def ML_putAll : MI := (yL_putAll, cL_putAll, 8, (Option.some Jvm.ClassFile.FieldType.int), [((0 : Nat), (17 : Nat), (20 : Nat), (19 : Nat)), ((0 : Nat), (17 : Nat), (24 : Nat), (21 : Nat)), ((0 : Nat), (17 : Nat), (28 : Nat), (23 : Nat))])
def ML_take : MI := (yL_take, cL_take, 5, (Option.some Jvm.ClassFile.FieldType.int), [((0 : Nat), (11 : Nat), (14 : Nat), (19 : Nat)), ((0 : Nat), (11 : Nat), (18 : Nat), (21 : Nat))])
def ML_clear : MI := (yL_clear, cL_clear, 4, (Option.some Jvm.ClassFile.FieldType.int), [((0 : Nat), (10 : Nat), (13 : Nat), (19 : Nat))])
def ML_pair : MI := (yL_pair, cL_pair, 5, (Option.some Jvm.ClassFile.FieldType.int), [((0 : Nat), (11 : Nat), (14 : Nat), (21 : Nat)), ((0 : Nat), (11 : Nat), (18 : Nat), (23 : Nat))])
def ML_pour : MI := (yL_pour, cL_pour, 5, (Option.some Jvm.ClassFile.FieldType.int), [((0 : Nat), (11 : Nat), (14 : Nat), (19 : Nat)), ((0 : Nat), (11 : Nat), (18 : Nat), (23 : Nat))])
def ML_change : MI := (yL_change, cL_change, 6, (Option.some Jvm.ClassFile.FieldType.int), [((0 : Nat), (13 : Nat), (16 : Nat), (19 : Nat)), ((0 : Nat), (13 : Nat), (20 : Nat), (21 : Nat))])
def ML_insert : MI := (yL_insert, cL_insert, 6, (Option.some Jvm.ClassFile.FieldType.int), [((0 : Nat), (13 : Nat), (16 : Nat), (19 : Nat)), ((0 : Nat), (13 : Nat), (20 : Nat), (21 : Nat)), ((0 : Nat), (13 : Nat), (24 : Nat), (23 : Nat))])
def ML_remove : MI := (yL_remove, cL_remove, 5, (Option.some Jvm.ClassFile.FieldType.int), [((0 : Nat), (11 : Nat), (14 : Nat), (19 : Nat))])
def ML_turn : MI := (yL_turn, cL_turn, 4, (Option.some Jvm.ClassFile.FieldType.int), [((0 : Nat), (10 : Nat), (13 : Nat), (19 : Nat))])
def ML_rotate : MI := (yL_rotate, cL_rotate, 5, (Option.some Jvm.ClassFile.FieldType.int), [((0 : Nat), (11 : Nat), (14 : Nat), (19 : Nat)), ((0 : Nat), (11 : Nat), (18 : Nat), (21 : Nat))])
def ML_swap : MI := (yL_swap, cL_swap, 6, (Option.some Jvm.ClassFile.FieldType.int), [((0 : Nat), (13 : Nat), (16 : Nat), (19 : Nat))])
def ML_fill : MI := (yL_fill, cL_fill, 5, (Option.some Jvm.ClassFile.FieldType.int), [((0 : Nat), (11 : Nat), (14 : Nat), (19 : Nat)), ((0 : Nat), (11 : Nat), (18 : Nat), (21 : Nat))])
def ML_replace : MI := (yL_replace, cL_replace, 6, (Option.some Jvm.ClassFile.FieldType.int), [((0 : Nat), (13 : Nat), (16 : Nat), (19 : Nat)), ((0 : Nat), (13 : Nat), (20 : Nat), (21 : Nat))])
def ML_copies : MI := (yL_copies, cL_copies, 6, (Option.some Jvm.ClassFile.FieldType.int), [((0 : Nat), (13 : Nat), (16 : Nat), (19 : Nat)), ((0 : Nat), (13 : Nat), (20 : Nat), (21 : Nat)), ((0 : Nat), (13 : Nat), (24 : Nat), (23 : Nat))])
def ML_walk : MI := (yL_walk, cL_walk, 6, (Option.some Jvm.ClassFile.FieldType.int), [((0 : Nat), (13 : Nat), (16 : Nat), (19 : Nat)), ((0 : Nat), (13 : Nat), (20 : Nat), (21 : Nat))])
def ML_next : MI := (yL_next, cL_next, 4, (Option.some Jvm.ClassFile.FieldType.int), [((0 : Nat), (10 : Nat), (13 : Nat), (19 : Nat)), ((0 : Nat), (10 : Nat), (16 : Nat), (23 : Nat))])
def ML_more : MI := (yL_more, cL_more, 4, (Option.some Jvm.ClassFile.FieldType.int), [((0 : Nat), (10 : Nat), (13 : Nat), (19 : Nat)), ((0 : Nat), (10 : Nat), (16 : Nat), (23 : Nat))])
def ML_takeOut : MI := (yL_takeOut, cL_takeOut, 4, (Option.some Jvm.ClassFile.FieldType.int), [((0 : Nat), (10 : Nat), (13 : Nat), (19 : Nat)), ((0 : Nat), (10 : Nat), (16 : Nat), (23 : Nat))])
def ML_rest : MI := (yL_rest, cL_rest, 4, (Option.some Jvm.ClassFile.FieldType.int), [((0 : Nat), (9 : Nat), (12 : Nat), (19 : Nat)), ((0 : Nat), (9 : Nat), (15 : Nat), (23 : Nat))])
def ML_keepRest : MI := (yL_keepRest, cL_keepRest, 5, (Option.some Jvm.ClassFile.FieldType.int), [((0 : Nat), (11 : Nat), (14 : Nat), (19 : Nat)), ((0 : Nat), (11 : Nat), (18 : Nat), (23 : Nat))])
def ML_keep : MI := (yL_keep, cL_keep, 5, (Option.some Jvm.ClassFile.FieldType.int), [((0 : Nat), (11 : Nat), (14 : Nat), (19 : Nat))])
def ML_drop : MI := (yL_drop, cL_drop, 4, (Option.some Jvm.ClassFile.FieldType.int), [((0 : Nat), (10 : Nat), (13 : Nat), (19 : Nat))])
def ML_skip : MI := (yL_skip, cL_skip, 5, (Option.some Jvm.ClassFile.FieldType.int), [((0 : Nat), (11 : Nat), (14 : Nat), (19 : Nat)), ((0 : Nat), (11 : Nat), (18 : Nat), (21 : Nat)), ((0 : Nat), (11 : Nat), (22 : Nat), (23 : Nat))])
def ML_pourRest : MI := (yL_pourRest, cL_pourRest, 5, (Option.some Jvm.ClassFile.FieldType.int), [((0 : Nat), (11 : Nat), (14 : Nat), (19 : Nat)), ((0 : Nat), (11 : Nat), (18 : Nat), (23 : Nat))])
def ML_zip : MI := (yL_zip, cL_zip, 5, (Option.some Jvm.ClassFile.FieldType.int), [((0 : Nat), (10 : Nat), (13 : Nat), (19 : Nat)), ((0 : Nat), (10 : Nat), (17 : Nat), (21 : Nat)), ((0 : Nat), (10 : Nat), (21 : Nat), (23 : Nat))])
def ML_text : MI := (yL_text, cL_text, 4, (Option.some Jvm.ClassFile.FieldType.int), [((0 : Nat), (9 : Nat), (12 : Nat), (19 : Nat))])
def ML_list : MI := (yL_list, cL_list, 4, (Option.some Jvm.ClassFile.FieldType.int), [((0 : Nat), (9 : Nat), (12 : Nat), (19 : Nat))])
def ML_size : MI := (yL_size, cL_size, 4, (Option.some Jvm.ClassFile.FieldType.int), [((0 : Nat), (10 : Nat), (13 : Nat), (19 : Nat))])
def ML_isEmpty : MI := (yL_isEmpty, cL_isEmpty, 4, (Option.some Jvm.ClassFile.FieldType.int), [((0 : Nat), (17 : Nat), (20 : Nat), (19 : Nat))])
def ML_has : MI := (yL_has, cL_has, 5, (Option.some Jvm.ClassFile.FieldType.int), [((0 : Nat), (11 : Nat), (14 : Nat), (19 : Nat)), ((0 : Nat), (11 : Nat), (18 : Nat), (21 : Nat))])
def ML_often : MI := (yL_often, cL_often, 5, (Option.some Jvm.ClassFile.FieldType.int), [((0 : Nat), (11 : Nat), (14 : Nat), (19 : Nat)), ((0 : Nat), (11 : Nat), (18 : Nat), (21 : Nat))])
def ML_placeOf : MI := (yL_placeOf, cL_placeOf, 6, (Option.some Jvm.ClassFile.FieldType.int), [((0 : Nat), (13 : Nat), (16 : Nat), (19 : Nat)), ((0 : Nat), (13 : Nat), (20 : Nat), (21 : Nat))])
def ML_disjoint : MI := (yL_disjoint, cL_disjoint, 5, (Option.some Jvm.ClassFile.FieldType.int), [((0 : Nat), (11 : Nat), (14 : Nat), (19 : Nat))])
def ML_end : MI := (yL_end, cL_end, 5, (Option.some Jvm.ClassFile.FieldType.int), [((0 : Nat), (11 : Nat), (14 : Nat), (19 : Nat))])
def ML_code : MI := (yL_code, cL_code, 4, (Option.some Jvm.ClassFile.FieldType.int), [((0 : Nat), (10 : Nat), (13 : Nat), (19 : Nat))])
def ML_areAlike : MI := (yL_areAlike, cL_areAlike, 5, (Option.some Jvm.ClassFile.FieldType.int), [((0 : Nat), (18 : Nat), (21 : Nat), (19 : Nat))])
def ML_first : MI := (yL_first, cL_first, 5, (Option.some Jvm.ClassFile.FieldType.int), [((0 : Nat), (11 : Nat), (14 : Nat), (19 : Nat))])
def ML_valueOf : MI := (yL_valueOf, cL_valueOf, 4, (Option.some Jvm.ClassFile.FieldType.int), [((0 : Nat), (10 : Nat), (13 : Nat), (21 : Nat))])
def ML_ofWalk : MI := (yL_ofWalk, cL_ofWalk, 5, (Option.some Jvm.ClassFile.FieldType.int), [((0 : Nat), (11 : Nat), (14 : Nat), (19 : Nat)), ((0 : Nat), (11 : Nat), (18 : Nat), (21 : Nat))])
def ML_house : MI := (yL_house, cL_house, 4, (Option.some Jvm.ClassFile.FieldType.int), [((0 : Nat), (10 : Nat), (13 : Nat), (21 : Nat))])
def SR0 : SRT := [("Overwalks", 304, "what is not 0 to 5", 10), ("Overwalks", 350, "no such walk", 12), ("Overwalks", 281, "what is not 0 to 3", 14), ("Overwalks", 337, "no such shelf", 16), ("Overwalks", 361, "not 0 to 100", 18), ("Overwalks", 367, "more than 12 would lie there", 20), ("Overwalks", 363, "not -1 to 100", 22), ("Overwalks", 359, "not 0 to 99", 24), ("Overwalks", 346, "none of the rows", 26), ("Overwalks", 357, "no such place", 28), ("Overwalks", 152, "by is not -20 to 20", 30), ("Overwalks", 365, "many is not 0 to 12", 32), ("Overwalks", 175, "how is not 0 to 2", 34), ("Overwalks", 177, "only the vector has elements", 36), ("Overwalks", 354, "this walk was not made", 38), ("Overwalks", 217, "!", 40), ("java/util/Arrays", 337, " > ", 42), ("Overwalks", 348, "no such list", 44), ("Overwalks", 240, "both walks are the same", 46), ("OverwalksModel", 154, "", 48), ("OverwalksModel", 57, "!", 40), ("OverwalksModel", 167, " ", 50), ("OverwalksModel", 149, "-", 52), ("OverwalksModel", 197, "/", 54)]
theorem SRm {q : String × Nat × String × Nat} (i : Nat) (h : SR0[i]? = some q) : q ∈ SR0 := List.mem_of_getElem? h
end
section
/-! 12.oks -/
theorem nm_all {y : MethodName} {c : String} (h : c ≠ "java/lang/invoke/MethodHandle" ∧ c ≠ "java/lang/invoke/VarHandle") (e : y.cls = c) : notMH y = true := by
  subst e
  unfold notMH
  rw [decide_eq_true h.1, decide_eq_true h.2]
  rfl
theorem nm_Overwalks_Shelf {a b : String} : notMH ⟨"Overwalks$Shelf", a, b⟩ = true := nm_all (c := "Overwalks$Shelf") ⟨by decide +kernel, by decide +kernel⟩ rfl
theorem nm_Overwalks_Walk {a b : String} : notMH ⟨"Overwalks$Walk", a, b⟩ = true := nm_all (c := "Overwalks$Walk") ⟨by decide +kernel, by decide +kernel⟩ rfl
theorem nm_Overwalks {a b : String} : notMH ⟨"Overwalks", a, b⟩ = true := nm_all (c := "Overwalks") ⟨by decide +kernel, by decide +kernel⟩ rfl
theorem nm_OverwalksLaw_Out {a b : String} : notMH ⟨"OverwalksLaw$Out", a, b⟩ = true := nm_all (c := "OverwalksLaw$Out") ⟨by decide +kernel, by decide +kernel⟩ rfl
theorem nm_OverwalksModel {a b : String} : notMH ⟨"OverwalksModel", a, b⟩ = true := nm_all (c := "OverwalksModel") ⟨by decide +kernel, by decide +kernel⟩ rfl
theorem nm_java_lang_AbstractStringBuilder {a b : String} : notMH ⟨"java/lang/AbstractStringBuilder", a, b⟩ = true := nm_all (c := "java/lang/AbstractStringBuilder") ⟨by decide +kernel, by decide +kernel⟩ rfl
theorem nm_java_lang_Integer {a b : String} : notMH ⟨"java/lang/Integer", a, b⟩ = true := nm_all (c := "java/lang/Integer") ⟨by decide +kernel, by decide +kernel⟩ rfl
theorem nm_java_lang_Math {a b : String} : notMH ⟨"java/lang/Math", a, b⟩ = true := nm_all (c := "java/lang/Math") ⟨by decide +kernel, by decide +kernel⟩ rfl
theorem nm_java_lang_String {a b : String} : notMH ⟨"java/lang/String", a, b⟩ = true := nm_all (c := "java/lang/String") ⟨by decide +kernel, by decide +kernel⟩ rfl
theorem nm_java_lang_StringBuilder {a b : String} : notMH ⟨"java/lang/StringBuilder", a, b⟩ = true := nm_all (c := "java/lang/StringBuilder") ⟨by decide +kernel, by decide +kernel⟩ rfl
theorem nm_java_lang_StringLatin1 {a b : String} : notMH ⟨"java/lang/StringLatin1", a, b⟩ = true := nm_all (c := "java/lang/StringLatin1") ⟨by decide +kernel, by decide +kernel⟩ rfl
theorem nm_java_lang_StringUTF16 {a b : String} : notMH ⟨"java/lang/StringUTF16", a, b⟩ = true := nm_all (c := "java/lang/StringUTF16") ⟨by decide +kernel, by decide +kernel⟩ rfl
theorem nm_java_util_Arrays {a b : String} : notMH ⟨"java/util/Arrays", a, b⟩ = true := nm_all (c := "java/util/Arrays") ⟨by decide +kernel, by decide +kernel⟩ rfl
theorem nm_jdk_internal_util_ArraysSupport {a b : String} : notMH ⟨"jdk/internal/util/ArraysSupport", a, b⟩ = true := nm_all (c := "jdk/internal/util/ArraysSupport") ⟨by decide +kernel, by decide +kernel⟩ rfl
theorem nm_jdk_internal_util_Preconditions {a b : String} : notMH ⟨"jdk/internal/util/Preconditions", a, b⟩ = true := nm_all (c := "jdk/internal/util/Preconditions") ⟨by decide +kernel, by decide +kernel⟩ rfl
theorem nm_OverwalksLaw {a b : String} : notMH ⟨"OverwalksLaw", a, b⟩ = true := nm_all (c := "OverwalksLaw") ⟨by decide +kernel, by decide +kernel⟩ rfl
theorem pd_0 : (parseMethodDescriptor "(LOverwalks$Kind;)V").map (fun d => d.parameters.length) = some 1 := by decide +kernel
theorem pd_1 : (parseMethodDescriptor "()Z").map (fun d => d.parameters.length) = some 0 := by decide +kernel
theorem pd_2 : (parseMethodDescriptor "(I)Z").map (fun d => d.parameters.length) = some 1 := by decide +kernel
theorem pd_3 : (parseMethodDescriptor "(I)I").map (fun d => d.parameters.length) = some 1 := by decide +kernel
theorem pd_4 : (parseMethodDescriptor "(II)Z").map (fun d => d.parameters.length) = some 2 := by decide +kernel
theorem pd_5 : (parseMethodDescriptor "()V").map (fun d => d.parameters.length) = some 0 := by decide +kernel
theorem pd_6 : (parseMethodDescriptor "(II)I").map (fun d => d.parameters.length) = some 2 := by decide +kernel
theorem pd_7 : (parseMethodDescriptor "(II)V").map (fun d => d.parameters.length) = some 2 := by decide +kernel
theorem pd_8 : (parseMethodDescriptor "(I)V").map (fun d => d.parameters.length) = some 1 := by decide +kernel
theorem pd_9 : (parseMethodDescriptor "(LOverwalks$Shelf;I)V").map (fun d => d.parameters.length) = some 2 := by decide +kernel
theorem pd_10 : (parseMethodDescriptor "(LOverwalks$Shelf;)V").map (fun d => d.parameters.length) = some 1 := by decide +kernel
theorem pd_11 : (parseMethodDescriptor "(LOverwalks$Shelf;II)V").map (fun d => d.parameters.length) = some 3 := by decide +kernel
theorem pd_12 : (parseMethodDescriptor "()I").map (fun d => d.parameters.length) = some 0 := by decide +kernel
theorem pd_13 : (parseMethodDescriptor "(IIIII)I").map (fun d => d.parameters.length) = some 5 := by decide +kernel
theorem pd_14 : (parseMethodDescriptor "(III)I").map (fun d => d.parameters.length) = some 3 := by decide +kernel
theorem pd_15 : (parseMethodDescriptor "(I)Ljava/lang/String;").map (fun d => d.parameters.length) = some 1 := by decide +kernel
theorem pd_16 : (parseMethodDescriptor "(II)Ljava/lang/String;").map (fun d => d.parameters.length) = some 2 := by decide +kernel
theorem pd_17 : (parseMethodDescriptor "(IIZ)I").map (fun d => d.parameters.length) = some 3 := by decide +kernel
theorem pd_18 : (parseMethodDescriptor "(IZ)I").map (fun d => d.parameters.length) = some 2 := by decide +kernel
theorem pd_19 : (parseMethodDescriptor "()J").map (fun d => d.parameters.length) = some 0 := by decide +kernel
theorem pd_20 : (parseMethodDescriptor "(I)LOverwalks$Shelf;").map (fun d => d.parameters.length) = some 1 := by decide +kernel
theorem pd_21 : (parseMethodDescriptor "(I)LOverwalks$Walk;").map (fun d => d.parameters.length) = some 1 := by decide +kernel
theorem pd_22 : (parseMethodDescriptor "(LOverwalks$Walk;)V").map (fun d => d.parameters.length) = some 1 := by decide +kernel
theorem pd_23 : (parseMethodDescriptor "(Z)I").map (fun d => d.parameters.length) = some 1 := by decide +kernel
theorem pd_24 : (parseMethodDescriptor "(IIII)I").map (fun d => d.parameters.length) = some 4 := by decide +kernel
theorem pd_25 : (parseMethodDescriptor "(LOverwalks$Shelf;LOverwalks$Shelf;)Z").map (fun d => d.parameters.length) = some 2 := by decide +kernel
theorem pd_26 : (parseMethodDescriptor "(LOverwalks$Shelf;ILOverwalks$Shelf;)Z").map (fun d => d.parameters.length) = some 3 := by decide +kernel
theorem pd_27 : (parseMethodDescriptor "(LOverwalks$Walk;LOverwalks$Shelf;)I").map (fun d => d.parameters.length) = some 2 := by decide +kernel
theorem pd_28 : (parseMethodDescriptor "(LOverwalks$Shelf;I)Ljava/lang/String;").map (fun d => d.parameters.length) = some 2 := by decide +kernel
theorem pd_29 : (parseMethodDescriptor "(Ljava/lang/StringBuilder;I)V").map (fun d => d.parameters.length) = some 2 := by decide +kernel
theorem pd_30 : (parseMethodDescriptor "(III)Z").map (fun d => d.parameters.length) = some 3 := by decide +kernel
theorem pd_31 : (parseMethodDescriptor "(ZZZ)Z").map (fun d => d.parameters.length) = some 3 := by decide +kernel
theorem pd_32 : (parseMethodDescriptor "(ZZ)Z").map (fun d => d.parameters.length) = some 2 := by decide +kernel
theorem pd_33 : (parseMethodDescriptor "(Z)Z").map (fun d => d.parameters.length) = some 1 := by decide +kernel
theorem pd_34 : (parseMethodDescriptor "()Ljava/lang/String;").map (fun d => d.parameters.length) = some 0 := by decide +kernel
theorem pd_35 : (parseMethodDescriptor "(III)V").map (fun d => d.parameters.length) = some 3 := by decide +kernel
theorem pd_36 : (parseMethodDescriptor "(I[II)I").map (fun d => d.parameters.length) = some 3 := by decide +kernel
theorem pd_37 : (parseMethodDescriptor "(II)[I").map (fun d => d.parameters.length) = some 2 := by decide +kernel
theorem pd_38 : (parseMethodDescriptor "(I)[I").map (fun d => d.parameters.length) = some 1 := by decide +kernel
theorem pd_39 : (parseMethodDescriptor "([I)Ljava/lang/String;").map (fun d => d.parameters.length) = some 1 := by decide +kernel
theorem pd_40 : (parseMethodDescriptor "(I[I)I").map (fun d => d.parameters.length) = some 2 := by decide +kernel
theorem pd_41 : (parseMethodDescriptor "(Ljava/lang/String;)Ljava/lang/AbstractStringBuilder;").map (fun d => d.parameters.length) = some 1 := by decide +kernel
theorem pd_42 : (parseMethodDescriptor "()Ljava/lang/AbstractStringBuilder;").map (fun d => d.parameters.length) = some 0 := by decide +kernel
theorem pd_43 : (parseMethodDescriptor "(C)Ljava/lang/AbstractStringBuilder;").map (fun d => d.parameters.length) = some 1 := by decide +kernel
theorem pd_44 : (parseMethodDescriptor "(I)Ljava/lang/AbstractStringBuilder;").map (fun d => d.parameters.length) = some 1 := by decide +kernel
theorem pd_45 : (parseMethodDescriptor "()[B").map (fun d => d.parameters.length) = some 0 := by decide +kernel
theorem pd_46 : (parseMethodDescriptor "(Ljava/lang/String;)V").map (fun d => d.parameters.length) = some 1 := by decide +kernel
theorem pd_47 : (parseMethodDescriptor "(ILjava/lang/String;)V").map (fun d => d.parameters.length) = some 2 := by decide +kernel
theorem pd_48 : (parseMethodDescriptor "(II[B)I").map (fun d => d.parameters.length) = some 3 := by decide +kernel
theorem pd_49 : (parseMethodDescriptor "(Ljava/lang/StringBuilder;)V").map (fun d => d.parameters.length) = some 1 := by decide +kernel
theorem pd_50 : (parseMethodDescriptor "([BIB)V").map (fun d => d.parameters.length) = some 3 := by decide +kernel
theorem pd_51 : (parseMethodDescriptor "(Ljava/lang/AbstractStringBuilder;Ljava/lang/Void;)V").map (fun d => d.parameters.length) = some 2 := by decide +kernel
theorem pd_52 : (parseMethodDescriptor "()B").map (fun d => d.parameters.length) = some 0 := by decide +kernel
theorem pd_53 : (parseMethodDescriptor "(Ljava/lang/String;)Ljava/lang/StringBuilder;").map (fun d => d.parameters.length) = some 1 := by decide +kernel
theorem pd_54 : (parseMethodDescriptor "(C)Ljava/lang/StringBuilder;").map (fun d => d.parameters.length) = some 1 := by decide +kernel
theorem pd_55 : (parseMethodDescriptor "(I)Ljava/lang/StringBuilder;").map (fun d => d.parameters.length) = some 1 := by decide +kernel
theorem pd_56 : (parseMethodDescriptor "(C)Z").map (fun d => d.parameters.length) = some 1 := by decide +kernel
theorem pd_57 : (parseMethodDescriptor "([BI[BII)V").map (fun d => d.parameters.length) = some 5 := by decide +kernel
theorem pd_58 : (parseMethodDescriptor "(I)[B").map (fun d => d.parameters.length) = some 1 := by decide +kernel
theorem pd_59 : (parseMethodDescriptor "([BII)V").map (fun d => d.parameters.length) = some 3 := by decide +kernel
theorem pd_60 : (parseMethodDescriptor "([BI)C").map (fun d => d.parameters.length) = some 2 := by decide +kernel
theorem pd_61 : (parseMethodDescriptor "([B)I").map (fun d => d.parameters.length) = some 1 := by decide +kernel
theorem pd_62 : (parseMethodDescriptor "([BI)B").map (fun d => d.parameters.length) = some 2 := by decide +kernel
theorem pd_63 : (parseMethodDescriptor "([BII)[B").map (fun d => d.parameters.length) = some 3 := by decide +kernel
theorem pd_64 : (parseMethodDescriptor "([BI[BII)I").map (fun d => d.parameters.length) = some 5 := by decide +kernel
theorem pd_65 : (parseMethodDescriptor "(III[B)I").map (fun d => d.parameters.length) = some 4 := by decide +kernel
theorem pd_66 : (parseMethodDescriptor "([BICCCC)I").map (fun d => d.parameters.length) = some 6 := by decide +kernel
theorem pd_67 : (parseMethodDescriptor "(I[B)V").map (fun d => d.parameters.length) = some 2 := by decide +kernel
theorem pd_68 : (parseMethodDescriptor "(II[B)V").map (fun d => d.parameters.length) = some 3 := by decide +kernel
theorem pd_69 : (parseMethodDescriptor "([BI)[B").map (fun d => d.parameters.length) = some 2 := by decide +kernel
theorem pd_70 : (parseMethodDescriptor "(IILjava/util/function/BiFunction;)I").map (fun d => d.parameters.length) = some 3 := by decide +kernel
theorem pd_71 : (parseMethodDescriptor "(IIILjava/util/function/BiFunction;)I").map (fun d => d.parameters.length) = some 4 := by decide +kernel
theorem pd_72 : (parseMethodDescriptor "(LOverwalks;IILOverwalksLaw$Out;)I").map (fun d => d.parameters.length) = some 4 := by decide +kernel
theorem pd_73 : (parseMethodDescriptor "(LOverwalks;IIIIILOverwalksLaw$Out;)I").map (fun d => d.parameters.length) = some 7 := by decide +kernel
theorem pd_74 : (parseMethodDescriptor "(LOverwalks;ILOverwalksLaw$Out;)I").map (fun d => d.parameters.length) = some 3 := by decide +kernel
theorem pd_75 : (parseMethodDescriptor "(LOverwalks;IIILOverwalksLaw$Out;)I").map (fun d => d.parameters.length) = some 5 := by decide +kernel
theorem pd_76 : (parseMethodDescriptor "(LOverwalks;IIZLOverwalksLaw$Out;)I").map (fun d => d.parameters.length) = some 5 := by decide +kernel
theorem pd_77 : (parseMethodDescriptor "(LOverwalks;IZLOverwalksLaw$Out;)I").map (fun d => d.parameters.length) = some 4 := by decide +kernel
theorem ok_X1_init : MOKi MX1_init 1 := ⟨⟨w_40, (by unfold cwM; exact w_78), nm_Overwalks_Shelf, pd_0, Nat.le_of_ble_eq_true rfl⟩, rfl, w_77, rfl, rfl⟩
theorem ok_X1_isOfTable : MOKv MX1_isOfTable 0 := ⟨⟨w_40, (by unfold cwM; exact w_433), nm_Overwalks_Shelf, pd_1, Nat.le_of_ble_eq_true rfl⟩, rfl, w_431, w_432⟩
theorem ok_X1_takesIn : MOKv MX1_takesIn 1 := ⟨⟨w_40, (by unfold cwM; exact w_438), nm_Overwalks_Shelf, pd_2, Nat.le_of_ble_eq_true rfl⟩, rfl, w_436, w_437⟩
theorem ok_X1_thingAt : MOKv MX1_thingAt 1 := ⟨⟨w_40, (by unfold cwM; exact w_207), nm_Overwalks_Shelf, pd_3, Nat.le_of_ble_eq_true rfl⟩, rfl, w_205, w_206⟩
theorem ok_X1_firstPlace : MOKv MX1_firstPlace 1 := ⟨⟨w_40, (by unfold cwM; exact w_250), nm_Overwalks_Shelf, pd_3, Nat.le_of_ble_eq_true rfl⟩, rfl, w_248, w_249⟩
theorem ok_X1_lastPlace : MOKv MX1_lastPlace 1 := ⟨⟨w_40, (by unfold cwM; exact w_1052), nm_Overwalks_Shelf, pd_3, Nat.le_of_ble_eq_true rfl⟩, rfl, w_1050, w_1051⟩
theorem ok_X1_holds : MOKv MX1_holds 1 := ⟨⟨w_40, (by unfold cwM; exact w_450), nm_Overwalks_Shelf, pd_2, Nat.le_of_ble_eq_true rfl⟩, rfl, w_448, w_449⟩
theorem ok_X1_countOf : MOKv MX1_countOf 1 := ⟨⟨w_40, (by unfold cwM; exact w_272), nm_Overwalks_Shelf, pd_3, Nat.le_of_ble_eq_true rfl⟩, rfl, w_270, w_271⟩
theorem ok_X1_risingPlace : MOKv MX1_risingPlace 1 := ⟨⟨w_40, (by unfold cwM; exact w_455), nm_Overwalks_Shelf, pd_3, Nat.le_of_ble_eq_true rfl⟩, rfl, w_453, w_454⟩
theorem ok_X1_layDown : MOKv MX1_layDown 1 := ⟨⟨w_40, (by unfold cwM; exact w_446), nm_Overwalks_Shelf, pd_2, Nat.le_of_ble_eq_true rfl⟩, rfl, w_444, w_445⟩
theorem ok_X1_layAhead : MOKv MX1_layAhead 2 := ⟨⟨w_40, (by unfold cwM; exact w_238), nm_Overwalks_Shelf, pd_4, Nat.le_of_ble_eq_true rfl⟩, rfl, w_236, w_237⟩
theorem ok_X1_lift : MOKv MX1_lift 1 := ⟨⟨w_40, (by unfold cwM; exact w_489), nm_Overwalks_Shelf, pd_3, Nat.le_of_ble_eq_true rfl⟩, rfl, w_487, w_488⟩
theorem ok_X1_liftAll : MOKv MX1_liftAll 0 := ⟨⟨w_40, (by unfold cwM; exact w_500), nm_Overwalks_Shelf, pd_5, Nat.le_of_ble_eq_true rfl⟩, rfl, w_498, w_499⟩
theorem ok_X1_exchange : MOKv MX1_exchange 2 := ⟨⟨w_40, (by unfold cwM; exact w_515), nm_Overwalks_Shelf, pd_6, Nat.le_of_ble_eq_true rfl⟩, rfl, w_513, w_514⟩
theorem ok_X1_reverse : MOKv MX1_reverse 2 := ⟨⟨w_40, (by unfold cwM; exact w_574), nm_Overwalks_Shelf, pd_7, Nat.le_of_ble_eq_true rfl⟩, rfl, w_572, w_573⟩
theorem ok_X1_moveOn : MOKv MX1_moveOn 1 := ⟨⟨w_40, (by unfold cwM; exact w_590), nm_Overwalks_Shelf, pd_8, Nat.le_of_ble_eq_true rfl⟩, rfl, w_588, w_589⟩
theorem ok_X1_becomeListOf : MOKv MX1_becomeListOf 2 := ⟨⟨w_40, (by unfold cwM; exact w_219), nm_Overwalks_Shelf, pd_9, Nat.le_of_ble_eq_true rfl⟩, rfl, w_217, w_218⟩
theorem ok_X1_rises : MOKv MX1_rises 0 := ⟨⟨w_40, (by unfold cwM; exact w_242), nm_Overwalks_Shelf, pd_1, Nat.le_of_ble_eq_true rfl⟩, rfl, w_240, w_241⟩
theorem ok_X1_hasEachOnce : MOKv MX1_hasEachOnce 0 := ⟨⟨w_40, (by unfold cwM; exact w_246), nm_Overwalks_Shelf, pd_1, Nat.le_of_ble_eq_true rfl⟩, rfl, w_244, w_245⟩
theorem ok_X2_init : MOKi MX2_init 1 := ⟨⟨w_43, (by unfold cwM; exact w_115), nm_Overwalks_Walk, pd_10, Nat.le_of_ble_eq_true rfl⟩, rfl, w_114, rfl, rfl⟩
theorem ok_X2_begin : MOKv MX2_begin 3 := ⟨⟨w_43, (by unfold cwM; exact w_187), nm_Overwalks_Walk, pd_11, Nat.le_of_ble_eq_true rfl⟩, rfl, w_185, w_186⟩
theorem ok_X2_isStale : MOKv MX2_isStale 0 := ⟨⟨w_43, (by unfold cwM; exact w_195), nm_Overwalks_Walk, pd_1, Nat.le_of_ble_eq_true rfl⟩, rfl, w_193, w_194⟩
theorem ok_X2_ahead : MOKv MX2_ahead 0 := ⟨⟨w_43, (by unfold cwM; exact w_199), nm_Overwalks_Walk, pd_12, Nat.le_of_ble_eq_true rfl⟩, rfl, w_197, w_198⟩
theorem ok_X2_hasMore : MOKv MX2_hasMore 0 := ⟨⟨w_43, (by unfold cwM; exact w_191), nm_Overwalks_Walk, pd_1, Nat.le_of_ble_eq_true rfl⟩, rfl, w_189, w_190⟩
theorem ok_X2_canGiveAll : MOKv MX2_canGiveAll 0 := ⟨⟨w_43, (by unfold cwM; exact w_676), nm_Overwalks_Walk, pd_1, Nat.le_of_ble_eq_true rfl⟩, rfl, w_674, w_675⟩
theorem ok_X2_canTakeOut : MOKv MX2_canTakeOut 0 := ⟨⟨w_43, (by unfold cwM; exact w_661), nm_Overwalks_Walk, pd_1, Nat.le_of_ble_eq_true rfl⟩, rfl, w_659, w_660⟩
theorem ok_X2_give : MOKv MX2_give 0 := ⟨⟨w_43, (by unfold cwM; exact w_203), nm_Overwalks_Walk, pd_12, Nat.le_of_ble_eq_true rfl⟩, rfl, w_201, w_202⟩
theorem ok_X2_giveUpTo : MOKv MX2_giveUpTo 1 := ⟨⟨w_43, (by unfold cwM; exact w_224), nm_Overwalks_Walk, pd_3, Nat.le_of_ble_eq_true rfl⟩, rfl, w_222, w_223⟩
theorem ok_X2_tookOut : MOKv MX2_tookOut 0 := ⟨⟨w_43, (by unfold cwM; exact w_665), nm_Overwalks_Walk, pd_5, Nat.le_of_ble_eq_true rfl⟩, rfl, w_663, w_664⟩
theorem ok_X3_init : MOKi MX3_init 0 := ⟨⟨w_39, (by unfold cwM; exact w_67), nm_Overwalks, pd_5, Nat.le_of_ble_eq_true rfl⟩, rfl, w_66, rfl, rfl⟩
theorem ok_X3_put : MOKv MX3_put 2 := ⟨⟨w_39, (by unfold cwM; exact w_401), nm_Overwalks, pd_6, Nat.le_of_ble_eq_true rfl⟩, rfl, w_399, w_400⟩
theorem ok_X3_putAll : MOKv MX3_putAll 5 := ⟨⟨w_39, (by unfold cwM; exact w_463), nm_Overwalks, pd_13, Nat.le_of_ble_eq_true rfl⟩, rfl, w_461, w_462⟩
theorem ok_X3_take : MOKv MX3_take 2 := ⟨⟨w_39, (by unfold cwM; exact w_480), nm_Overwalks, pd_6, Nat.le_of_ble_eq_true rfl⟩, rfl, w_478, w_479⟩
theorem ok_X3_clear : MOKv MX3_clear 1 := ⟨⟨w_39, (by unfold cwM; exact w_496), nm_Overwalks, pd_3, Nat.le_of_ble_eq_true rfl⟩, rfl, w_494, w_495⟩
theorem ok_X3_pair : MOKv MX3_pair 2 := ⟨⟨w_39, (by unfold cwM; exact w_507), nm_Overwalks, pd_6, Nat.le_of_ble_eq_true rfl⟩, rfl, w_505, w_506⟩
theorem ok_X3_pour : MOKv MX3_pour 2 := ⟨⟨w_39, (by unfold cwM; exact w_523), nm_Overwalks, pd_6, Nat.le_of_ble_eq_true rfl⟩, rfl, w_521, w_522⟩
theorem ok_X3_change : MOKv MX3_change 3 := ⟨⟨w_39, (by unfold cwM; exact w_540), nm_Overwalks, pd_14, Nat.le_of_ble_eq_true rfl⟩, rfl, w_538, w_539⟩
theorem ok_X3_insert : MOKv MX3_insert 3 := ⟨⟨w_39, (by unfold cwM; exact w_556), nm_Overwalks, pd_14, Nat.le_of_ble_eq_true rfl⟩, rfl, w_554, w_555⟩
theorem ok_X3_remove : MOKv MX3_remove 2 := ⟨⟨w_39, (by unfold cwM; exact w_563), nm_Overwalks, pd_6, Nat.le_of_ble_eq_true rfl⟩, rfl, w_561, w_562⟩
theorem ok_X3_turn : MOKv MX3_turn 1 := ⟨⟨w_39, (by unfold cwM; exact w_570), nm_Overwalks, pd_3, Nat.le_of_ble_eq_true rfl⟩, rfl, w_568, w_569⟩
theorem ok_X3_rotate : MOKv MX3_rotate 2 := ⟨⟨w_39, (by unfold cwM; exact w_582), nm_Overwalks, pd_6, Nat.le_of_ble_eq_true rfl⟩, rfl, w_580, w_581⟩
theorem ok_X3_swap : MOKv MX3_swap 3 := ⟨⟨w_39, (by unfold cwM; exact w_598), nm_Overwalks, pd_14, Nat.le_of_ble_eq_true rfl⟩, rfl, w_596, w_597⟩
theorem ok_X3_fill : MOKv MX3_fill 2 := ⟨⟨w_39, (by unfold cwM; exact w_605), nm_Overwalks, pd_6, Nat.le_of_ble_eq_true rfl⟩, rfl, w_603, w_604⟩
theorem ok_X3_replace : MOKv MX3_replace 3 := ⟨⟨w_39, (by unfold cwM; exact w_612), nm_Overwalks, pd_14, Nat.le_of_ble_eq_true rfl⟩, rfl, w_610, w_611⟩
theorem ok_X3_copies : MOKv MX3_copies 3 := ⟨⟨w_39, (by unfold cwM; exact w_619), nm_Overwalks, pd_14, Nat.le_of_ble_eq_true rfl⟩, rfl, w_617, w_618⟩
theorem ok_X3_walk : MOKv MX3_walk 3 := ⟨⟨w_39, (by unfold cwM; exact w_630), nm_Overwalks, pd_14, Nat.le_of_ble_eq_true rfl⟩, rfl, w_628, w_629⟩
theorem ok_X3_next : MOKv MX3_next 1 := ⟨⟨w_39, (by unfold cwM; exact w_639), nm_Overwalks, pd_3, Nat.le_of_ble_eq_true rfl⟩, rfl, w_637, w_638⟩
theorem ok_X3_more : MOKv MX3_more 1 := ⟨⟨w_39, (by unfold cwM; exact w_650), nm_Overwalks, pd_3, Nat.le_of_ble_eq_true rfl⟩, rfl, w_648, w_649⟩
theorem ok_X3_takeOut : MOKv MX3_takeOut 1 := ⟨⟨w_39, (by unfold cwM; exact w_657), nm_Overwalks, pd_3, Nat.le_of_ble_eq_true rfl⟩, rfl, w_655, w_656⟩
theorem ok_X3_rest : MOKv MX3_rest 1 := ⟨⟨w_39, (by unfold cwM; exact w_672), nm_Overwalks, pd_15, Nat.le_of_ble_eq_true rfl⟩, rfl, w_670, w_671⟩
theorem ok_X3_keepRest : MOKv MX3_keepRest 2 := ⟨⟨w_39, (by unfold cwM; exact w_958), nm_Overwalks, pd_6, Nat.le_of_ble_eq_true rfl⟩, rfl, w_956, w_957⟩
theorem ok_X3_keep : MOKv MX3_keep 2 := ⟨⟨w_39, (by unfold cwM; exact w_970), nm_Overwalks, pd_6, Nat.le_of_ble_eq_true rfl⟩, rfl, w_968, w_969⟩
theorem ok_X3_drop : MOKv MX3_drop 1 := ⟨⟨w_39, (by unfold cwM; exact w_977), nm_Overwalks, pd_3, Nat.le_of_ble_eq_true rfl⟩, rfl, w_975, w_976⟩
theorem ok_X3_skip : MOKv MX3_skip 2 := ⟨⟨w_39, (by unfold cwM; exact w_984), nm_Overwalks, pd_6, Nat.le_of_ble_eq_true rfl⟩, rfl, w_982, w_983⟩
theorem ok_X3_pourRest : MOKv MX3_pourRest 2 := ⟨⟨w_39, (by unfold cwM; exact w_991), nm_Overwalks, pd_6, Nat.le_of_ble_eq_true rfl⟩, rfl, w_989, w_990⟩
theorem ok_X3_zip : MOKv MX3_zip 2 := ⟨⟨w_39, (by unfold cwM; exact w_998), nm_Overwalks, pd_16, Nat.le_of_ble_eq_true rfl⟩, rfl, w_996, w_997⟩
theorem ok_X3_text : MOKv MX3_text 1 := ⟨⟨w_39, (by unfold cwM; exact w_1006), nm_Overwalks, pd_15, Nat.le_of_ble_eq_true rfl⟩, rfl, w_1004, w_1005⟩
theorem ok_X3_list : MOKv MX3_list 1 := ⟨⟨w_39, (by unfold cwM; exact w_1013), nm_Overwalks, pd_15, Nat.le_of_ble_eq_true rfl⟩, rfl, w_1011, w_1012⟩
theorem ok_X3_size : MOKv MX3_size 1 := ⟨⟨w_39, (by unfold cwM; exact w_1020), nm_Overwalks, pd_3, Nat.le_of_ble_eq_true rfl⟩, rfl, w_1018, w_1019⟩
theorem ok_X3_isEmpty : MOKv MX3_isEmpty 1 := ⟨⟨w_39, (by unfold cwM; exact w_1027), nm_Overwalks, pd_2, Nat.le_of_ble_eq_true rfl⟩, rfl, w_1025, w_1026⟩
theorem ok_X3_has : MOKv MX3_has 2 := ⟨⟨w_39, (by unfold cwM; exact w_1034), nm_Overwalks, pd_6, Nat.le_of_ble_eq_true rfl⟩, rfl, w_1032, w_1033⟩
theorem ok_X3_often : MOKv MX3_often 2 := ⟨⟨w_39, (by unfold cwM; exact w_1041), nm_Overwalks, pd_6, Nat.le_of_ble_eq_true rfl⟩, rfl, w_1039, w_1040⟩
theorem ok_X3_placeOf : MOKv MX3_placeOf 3 := ⟨⟨w_39, (by unfold cwM; exact w_1048), nm_Overwalks, pd_17, Nat.le_of_ble_eq_true rfl⟩, rfl, w_1046, w_1047⟩
theorem ok_X3_disjoint : MOKv MX3_disjoint 2 := ⟨⟨w_39, (by unfold cwM; exact w_1059), nm_Overwalks, pd_6, Nat.le_of_ble_eq_true rfl⟩, rfl, w_1057, w_1058⟩
theorem ok_X3_end : MOKv MX3_end 2 := ⟨⟨w_39, (by unfold cwM; exact w_1066), nm_Overwalks, pd_18, Nat.le_of_ble_eq_true rfl⟩, rfl, w_1064, w_1065⟩
theorem ok_X3_code : MOKv MX3_code 1 := ⟨⟨w_39, (by unfold cwM; exact w_1075), nm_Overwalks, pd_3, Nat.le_of_ble_eq_true rfl⟩, rfl, w_1073, w_1074⟩
theorem ok_X3_areAlike : MOKv MX3_areAlike 2 := ⟨⟨w_39, (by unfold cwM; exact w_1082), nm_Overwalks, pd_4, Nat.le_of_ble_eq_true rfl⟩, rfl, w_1080, w_1081⟩
theorem ok_X3_first : MOKv MX3_first 2 := ⟨⟨w_39, (by unfold cwM; exact w_1089), nm_Overwalks, pd_18, Nat.le_of_ble_eq_true rfl⟩, rfl, w_1087, w_1088⟩
theorem ok_X3_valueOf : MOKv MX3_valueOf 1 := ⟨⟨w_39, (by unfold cwM; exact w_1096), nm_Overwalks, pd_3, Nat.le_of_ble_eq_true rfl⟩, rfl, w_1094, w_1095⟩
theorem ok_X3_ofWalk : MOKv MX3_ofWalk 2 := ⟨⟨w_39, (by unfold cwM; exact w_356), nm_Overwalks, pd_6, Nat.le_of_ble_eq_true rfl⟩, rfl, w_354, w_355⟩
theorem ok_X3_house : MOKv MX3_house 1 := ⟨⟨w_39, (by unfold cwM; exact w_260), nm_Overwalks, pd_3, Nat.le_of_ble_eq_true rfl⟩, rfl, w_258, w_259⟩
theorem ok_X3_knock : MOKv MX3_knock 0 := ⟨⟨w_39, (by unfold cwM; exact w_175), nm_Overwalks, pd_12, Nat.le_of_ble_eq_true rfl⟩, rfl, w_173, w_174⟩
theorem ok_X3_isSound : MOKv MX3_isSound 0 := ⟨⟨w_39, (by unfold cwM; exact w_179), nm_Overwalks, pd_1, Nat.le_of_ble_eq_true rfl⟩, rfl, w_177, w_178⟩
theorem ok_X3_digest : MOKv MX3_digest 0 := ⟨⟨w_39, (by unfold cwM; exact w_254), nm_Overwalks, pd_19, Nat.le_of_ble_eq_true rfl⟩, rfl, w_252, w_253⟩
theorem ok_X3_shelfAt : MOKv MX3_shelfAt 1 := ⟨⟨w_39, (by unfold cwM; exact w_405), nm_Overwalks, pd_20, Nat.le_of_ble_eq_true rfl⟩, rfl, w_404, w_9⟩
theorem ok_X3_rowAt : MOKv MX3_rowAt 1 := ⟨⟨w_39, (by unfold cwM; exact w_544), nm_Overwalks, pd_20, Nat.le_of_ble_eq_true rfl⟩, rfl, w_543, w_12⟩
theorem ok_X3_listAt : MOKv MX3_listAt 1 := ⟨⟨w_39, (by unfold cwM; exact w_962), nm_Overwalks, pd_20, Nat.le_of_ble_eq_true rfl⟩, rfl, w_961, w_13⟩
theorem ok_X3_walkAt : MOKv MX3_walkAt 1 := ⟨⟨w_39, (by unfold cwM; exact w_360), nm_Overwalks, pd_21, Nat.le_of_ble_eq_true rfl⟩, rfl, w_359, w_8⟩
theorem ok_X3_requireMade : MOKs MX3_requireMade 1 := ⟨⟨w_39, (by unfold cwM; exact w_642), nm_Overwalks, pd_22, Nat.le_of_ble_eq_true rfl⟩, w_641⟩
theorem ok_X3_requirePlace : MOKs MX3_requirePlace 2 := ⟨⟨w_39, (by unfold cwM; exact w_548), nm_Overwalks, pd_7, Nat.le_of_ble_eq_true rfl⟩, w_547⟩
theorem ok_X3_requireThing : MOKs MX3_requireThing 1 := ⟨⟨w_39, (by unfold cwM; exact w_510), nm_Overwalks, pd_8, Nat.le_of_ble_eq_true rfl⟩, w_509⟩
theorem ok_X3_requireThingOrNothing : MOKs MX3_requireThingOrNothing 1 := ⟨⟨w_39, (by unfold cwM; exact w_409), nm_Overwalks, pd_8, Nat.le_of_ble_eq_true rfl⟩, w_408⟩
theorem ok_X3_requireThingNothingOrNone : MOKs MX3_requireThingNothingOrNone 1 := ⟨⟨w_39, (by unfold cwM; exact w_466), nm_Overwalks, pd_8, Nat.le_of_ble_eq_true rfl⟩, w_465⟩
theorem ok_X3_requireUpToRoom : MOKs MX3_requireUpToRoom 1 := ⟨⟨w_39, (by unfold cwM; exact w_622), nm_Overwalks, pd_8, Nat.le_of_ble_eq_true rfl⟩, w_621⟩
theorem ok_X3_requireRoom : MOKs MX3_requireRoom 2 := ⟨⟨w_39, (by unfold cwM; exact w_413), nm_Overwalks, pd_9, Nat.le_of_ble_eq_true rfl⟩, w_412⟩
theorem ok_X3_refuse : MOKv MX3_refuse 0 := ⟨⟨w_39, (by unfold cwM; exact w_442), nm_Overwalks, pd_12, Nat.le_of_ble_eq_true rfl⟩, rfl, w_441, w_10⟩
theorem ok_X3_oneIf : MOKs MX3_oneIf 1 := ⟨⟨w_39, (by unfold cwM; exact w_279), nm_Overwalks, pd_23, Nat.le_of_ble_eq_true rfl⟩, w_278⟩
theorem ok_X3_countToFirstNone : MOKs MX3_countToFirstNone 4 := ⟨⟨w_39, (by unfold cwM; exact w_470), nm_Overwalks, pd_24, Nat.le_of_ble_eq_true rfl⟩, w_469⟩
theorem ok_X3_oneOfFour : MOKs MX3_oneOfFour 5 := ⟨⟨w_39, (by unfold cwM; exact w_473), nm_Overwalks, pd_13, Nat.le_of_ble_eq_true rfl⟩, w_472⟩
theorem ok_X3_liftFrom : MOKv MX3_liftFrom 2 := ⟨⟨w_39, (by unfold cwM; exact w_485), nm_Overwalks, pd_9, Nat.le_of_ble_eq_true rfl⟩, rfl, w_484, w_11⟩
theorem ok_X3_cannotPour : MOKs MX3_cannotPour 2 := ⟨⟨w_39, (by unfold cwM; exact w_526), nm_Overwalks, pd_25, Nat.le_of_ble_eq_true rfl⟩, w_525⟩
theorem ok_X3_hasNothingsThatAreNotTaken : MOKs MX3_hasNothingsThatAreNotTaken 2 := ⟨⟨w_39, (by unfold cwM; exact w_529), nm_Overwalks, pd_25, Nat.le_of_ble_eq_true rfl⟩, w_528⟩
theorem ok_X3_pourBehind : MOKs MX3_pourBehind 3 := ⟨⟨w_39, (by unfold cwM; exact w_533), nm_Overwalks, pd_26, Nat.le_of_ble_eq_true rfl⟩, w_532⟩
theorem ok_X3_listRest : MOKs MX3_listRest 2 := ⟨⟨w_39, (by unfold cwM; exact w_214), nm_Overwalks, pd_27, Nat.le_of_ble_eq_true rfl⟩, w_213⟩
theorem ok_X3_haveTheSame : MOKs MX3_haveTheSame 2 := ⟨⟨w_39, (by unfold cwM; exact w_229), nm_Overwalks, pd_25, Nat.le_of_ble_eq_true rfl⟩, w_228⟩
theorem ok_X3_textBehind : MOKs MX3_textBehind 2 := ⟨⟨w_39, (by unfold cwM; exact w_680), nm_Overwalks, pd_28, Nat.le_of_ble_eq_true rfl⟩, w_679⟩
theorem ok_X3_appendBlankBehindFirst : MOKs MX3_appendBlankBehindFirst 2 := ⟨⟨w_39, (by unfold cwM; exact w_714), nm_Overwalks, pd_29, Nat.le_of_ble_eq_true rfl⟩, w_713⟩
theorem ok_X3_appendThing : MOKs MX3_appendThing 2 := ⟨⟨w_39, (by unfold cwM; exact w_812), nm_Overwalks, pd_29, Nat.le_of_ble_eq_true rfl⟩, w_811⟩
theorem ok_X3_countThings : MOKv MX3_countThings 0 := ⟨⟨w_39, (by unfold cwM; exact w_264), nm_Overwalks, pd_12, Nat.le_of_ble_eq_true rfl⟩, rfl, w_263, w_3⟩
theorem ok_X3_countNothings : MOKv MX3_countNothings 0 := ⟨⟨w_39, (by unfold cwM; exact w_268), nm_Overwalks, pd_12, Nat.le_of_ble_eq_true rfl⟩, rfl, w_267, w_4⟩
theorem ok_X3_countWalks : MOKv MX3_countWalks 0 := ⟨⟨w_39, (by unfold cwM; exact w_276), nm_Overwalks, pd_12, Nat.le_of_ble_eq_true rfl⟩, rfl, w_275, w_5⟩
theorem ok_X3_countStaleWalks : MOKv MX3_countStaleWalks 0 := ⟨⟨w_39, (by unfold cwM; exact w_283), nm_Overwalks, pd_12, Nat.le_of_ble_eq_true rfl⟩, rfl, w_282, w_6⟩
theorem ok_X3_giveTheSame : MOKv MX3_giveTheSame 3 := ⟨⟨w_39, (by unfold cwM; exact w_183), nm_Overwalks, pd_30, Nat.le_of_ble_eq_true rfl⟩, rfl, w_182, w_0⟩
theorem ok_X3_isItsList : MOKv MX3_isItsList 1 := ⟨⟨w_39, (by unfold cwM; exact w_211), nm_Overwalks, pd_2, Nat.le_of_ble_eq_true rfl⟩, rfl, w_210, w_1⟩
theorem ok_X3_isItsListBehindOneStep : MOKv MX3_isItsListBehindOneStep 1 := ⟨⟨w_39, (by unfold cwM; exact w_234), nm_Overwalks, pd_2, Nat.le_of_ble_eq_true rfl⟩, rfl, w_233, w_2⟩
theorem ok_X4_init : MOKi MX4_init 0 := ⟨⟨w_45, (by unfold cwM; exact w_383), nm_OverwalksLaw_Out, pd_5, Nat.le_of_ble_eq_true rfl⟩, rfl, w_382, rfl, rfl⟩
theorem ok_X5_init : MOKi MX5_init 0 := ⟨⟨w_44, (by unfold cwM; exact w_1109), nm_OverwalksModel, pd_5, Nat.le_of_ble_eq_true rfl⟩, rfl, w_1108, rfl, rfl⟩
theorem ok_X5_thrown : MOKv MX5_thrown 0 := ⟨⟨w_44, (by unfold cwM; exact w_1160), nm_OverwalksModel, pd_12, Nat.le_of_ble_eq_true rfl⟩, rfl, w_1158, w_1159⟩
theorem ok_X5_isIn : MOKs MX5_isIn 3 := ⟨⟨w_44, (by unfold cwM; exact w_1170), nm_OverwalksModel, pd_30, Nat.le_of_ble_eq_true rfl⟩, w_1169⟩
theorem ok_X5_one : MOKs MX5_one 1 := ⟨⟨w_44, (by unfold cwM; exact w_1198), nm_OverwalksModel, pd_23, Nat.le_of_ble_eq_true rfl⟩, w_1197⟩
theorem ok_X5_isStopped : MOKv MX5_isStopped 3 := ⟨⟨w_44, (by unfold cwM; exact w_1177), nm_OverwalksModel, pd_31, Nat.le_of_ble_eq_true rfl⟩, rfl, w_1176, w_14⟩
theorem ok_X5_isStopped_ : MOKv MX5_isStopped_ 2 := ⟨⟨w_44, (by unfold cwM; exact w_1218), nm_OverwalksModel, pd_32, Nat.le_of_ble_eq_true rfl⟩, rfl, w_1217, w_20⟩
theorem ok_X5_isStopped__ : MOKv MX5_isStopped__ 1 := ⟨⟨w_44, (by unfold cwM; exact w_1238), nm_OverwalksModel, pd_33, Nat.le_of_ble_eq_true rfl⟩, rfl, w_1237, w_24⟩
theorem ok_X5_no : MOKv MX5_no 0 := ⟨⟨w_44, (by unfold cwM; exact w_1187), nm_OverwalksModel, pd_12, Nat.le_of_ble_eq_true rfl⟩, rfl, w_1186, w_15⟩
theorem ok_X5_noText : MOKv MX5_noText 0 := ⟨⟨w_44, (by unfold cwM; exact w_1345), nm_OverwalksModel, pd_34, Nat.le_of_ble_eq_true rfl⟩, rfl, w_1344, w_33⟩
theorem ok_X5_isNone : MOKs MX5_isNone 1 := ⟨⟨w_44, (by unfold cwM; exact w_1167), nm_OverwalksModel, pd_2, Nat.le_of_ble_eq_true rfl⟩, w_1166⟩
theorem ok_X5_isNoRow : MOKs MX5_isNoRow 1 := ⟨⟨w_44, (by unfold cwM; exact w_1269), nm_OverwalksModel, pd_2, Nat.le_of_ble_eq_true rfl⟩, w_1268⟩
theorem ok_X5_isNoList : MOKs MX5_isNoList 1 := ⟨⟨w_44, (by unfold cwM; exact w_1370), nm_OverwalksModel, pd_2, Nat.le_of_ble_eq_true rfl⟩, w_1369⟩
theorem ok_X5_isNoThing : MOKs MX5_isNoThing 1 := ⟨⟨w_44, (by unfold cwM; exact w_1173), nm_OverwalksModel, pd_2, Nat.le_of_ble_eq_true rfl⟩, w_1172⟩
theorem ok_X5_isTable : MOKs MX5_isTable 1 := ⟨⟨w_44, (by unfold cwM; exact w_1180), nm_OverwalksModel, pd_2, Nat.le_of_ble_eq_true rfl⟩, w_1179⟩
theorem ok_X5_takesNothing : MOKs MX5_takesNothing 1 := ⟨⟨w_44, (by unfold cwM; exact w_1183), nm_OverwalksModel, pd_2, Nat.le_of_ble_eq_true rfl⟩, w_1182⟩
theorem ok_X5_isNoPlace : MOKv MX5_isNoPlace 2 := ⟨⟨w_44, (by unfold cwM; exact w_1266), nm_OverwalksModel, pd_4, Nat.le_of_ble_eq_true rfl⟩, rfl, w_1265, w_28⟩
theorem ok_X5_hasNothing : MOKv MX5_hasNothing 1 := ⟨⟨w_44, (by unfold cwM; exact w_1254), nm_OverwalksModel, pd_2, Nat.le_of_ble_eq_true rfl⟩, rfl, w_1253, w_26⟩
theorem ok_X5_count : MOKv MX5_count 2 := ⟨⟨w_44, (by unfold cwM; exact w_1195), nm_OverwalksModel, pd_6, Nat.le_of_ble_eq_true rfl⟩, rfl, w_1194, w_17⟩
theorem ok_X5_firstPlace : MOKv MX5_firstPlace 2 := ⟨⟨w_44, (by unfold cwM; exact w_1222), nm_OverwalksModel, pd_6, Nat.le_of_ble_eq_true rfl⟩, rfl, w_1221, w_21⟩
theorem ok_X5_comeAt : MOKv MX5_comeAt 3 := ⟨⟨w_44, (by unfold cwM; exact w_1202), nm_OverwalksModel, pd_35, Nat.le_of_ble_eq_true rfl⟩, rfl, w_1201, w_18⟩
theorem ok_X5_goAt : MOKv MX5_goAt 2 := ⟨⟨w_44, (by unfold cwM; exact w_1230), nm_OverwalksModel, pd_7, Nat.le_of_ble_eq_true rfl⟩, rfl, w_1229, w_23⟩
theorem ok_X5_leave : MOKv MX5_leave 2 := ⟨⟨w_44, (by unfold cwM; exact w_1226), nm_OverwalksModel, pd_7, Nat.le_of_ble_eq_true rfl⟩, rfl, w_1225, w_22⟩
theorem ok_X5_come : MOKv MX5_come 2 := ⟨⟨w_44, (by unfold cwM; exact w_1191), nm_OverwalksModel, pd_4, Nat.le_of_ble_eq_true rfl⟩, rfl, w_1190, w_16⟩
theorem ok_X5_comeAll : MOKv MX5_comeAll 3 := ⟨⟨w_44, (by unfold cwM; exact w_1210), nm_OverwalksModel, pd_36, Nat.le_of_ble_eq_true rfl⟩, rfl, w_1209, w_19⟩
theorem ok_X5_picture : MOKv MX5_picture 2 := ⟨⟨w_44, (by unfold cwM; exact w_1258), nm_OverwalksModel, pd_37, Nat.le_of_ble_eq_true rfl⟩, rfl, w_1257, w_27⟩
theorem ok_X5_empty : MOKv MX5_empty 1 := ⟨⟨w_44, (by unfold cwM; exact w_1242), nm_OverwalksModel, pd_8, Nat.le_of_ble_eq_true rfl⟩, rfl, w_1241, w_25⟩
theorem ok_X5_put : MOKv MX5_put 2 := ⟨⟨w_44, (by unfold cwM; exact w_1164), nm_OverwalksModel, pd_6, Nat.le_of_ble_eq_true rfl⟩, rfl, w_1162, w_1163⟩
theorem ok_X5_putAll : MOKv MX5_putAll 5 := ⟨⟨w_44, (by unfold cwM; exact w_1206), nm_OverwalksModel, pd_13, Nat.le_of_ble_eq_true rfl⟩, rfl, w_1204, w_1205⟩
theorem ok_X5_take : MOKv MX5_take 2 := ⟨⟨w_44, (by unfold cwM; exact w_1214), nm_OverwalksModel, pd_6, Nat.le_of_ble_eq_true rfl⟩, rfl, w_1212, w_1213⟩
theorem ok_X5_clear : MOKv MX5_clear 1 := ⟨⟨w_44, (by unfold cwM; exact w_1234), nm_OverwalksModel, pd_3, Nat.le_of_ble_eq_true rfl⟩, rfl, w_1232, w_1233⟩
theorem ok_X5_pair : MOKv MX5_pair 2 := ⟨⟨w_44, (by unfold cwM; exact w_1246), nm_OverwalksModel, pd_6, Nat.le_of_ble_eq_true rfl⟩, rfl, w_1244, w_1245⟩
theorem ok_X5_pour : MOKv MX5_pour 2 := ⟨⟨w_44, (by unfold cwM; exact w_1250), nm_OverwalksModel, pd_6, Nat.le_of_ble_eq_true rfl⟩, rfl, w_1248, w_1249⟩
theorem ok_X5_change : MOKv MX5_change 3 := ⟨⟨w_44, (by unfold cwM; exact w_1262), nm_OverwalksModel, pd_14, Nat.le_of_ble_eq_true rfl⟩, rfl, w_1260, w_1261⟩
theorem ok_X5_insert : MOKv MX5_insert 3 := ⟨⟨w_44, (by unfold cwM; exact w_1273), nm_OverwalksModel, pd_14, Nat.le_of_ble_eq_true rfl⟩, rfl, w_1271, w_1272⟩
theorem ok_X5_remove : MOKv MX5_remove 2 := ⟨⟨w_44, (by unfold cwM; exact w_1277), nm_OverwalksModel, pd_6, Nat.le_of_ble_eq_true rfl⟩, rfl, w_1275, w_1276⟩
theorem ok_X5_turn : MOKv MX5_turn 1 := ⟨⟨w_44, (by unfold cwM; exact w_1281), nm_OverwalksModel, pd_3, Nat.le_of_ble_eq_true rfl⟩, rfl, w_1279, w_1280⟩
theorem ok_X5_rotate : MOKv MX5_rotate 2 := ⟨⟨w_44, (by unfold cwM; exact w_1285), nm_OverwalksModel, pd_6, Nat.le_of_ble_eq_true rfl⟩, rfl, w_1283, w_1284⟩
theorem ok_X5_swap : MOKv MX5_swap 3 := ⟨⟨w_44, (by unfold cwM; exact w_1289), nm_OverwalksModel, pd_14, Nat.le_of_ble_eq_true rfl⟩, rfl, w_1287, w_1288⟩
theorem ok_X5_fill : MOKv MX5_fill 2 := ⟨⟨w_44, (by unfold cwM; exact w_1293), nm_OverwalksModel, pd_6, Nat.le_of_ble_eq_true rfl⟩, rfl, w_1291, w_1292⟩
theorem ok_X5_replace : MOKv MX5_replace 3 := ⟨⟨w_44, (by unfold cwM; exact w_1297), nm_OverwalksModel, pd_14, Nat.le_of_ble_eq_true rfl⟩, rfl, w_1295, w_1296⟩
theorem ok_X5_copies : MOKv MX5_copies 3 := ⟨⟨w_44, (by unfold cwM; exact w_1301), nm_OverwalksModel, pd_14, Nat.le_of_ble_eq_true rfl⟩, rfl, w_1299, w_1300⟩
theorem ok_X5_isNoWalk : MOKs MX5_isNoWalk 1 := ⟨⟨w_44, (by unfold cwM; exact w_1308), nm_OverwalksModel, pd_2, Nat.le_of_ble_eq_true rfl⟩, w_1307⟩
theorem ok_X5_isUnmade : MOKv MX5_isUnmade 1 := ⟨⟨w_44, (by unfold cwM; exact w_1316), nm_OverwalksModel, pd_2, Nat.le_of_ble_eq_true rfl⟩, rfl, w_1315, w_29⟩
theorem ok_X5_isStale : MOKv MX5_isStale 1 := ⟨⟨w_44, (by unfold cwM; exact w_1320), nm_OverwalksModel, pd_2, Nat.le_of_ble_eq_true rfl⟩, rfl, w_1319, w_30⟩
theorem ok_X5_hasMore : MOKv MX5_hasMore 1 := ⟨⟨w_44, (by unfold cwM; exact w_1324), nm_OverwalksModel, pd_2, Nat.le_of_ble_eq_true rfl⟩, rfl, w_1323, w_31⟩
theorem ok_X5_give : MOKv MX5_give 1 := ⟨⟨w_44, (by unfold cwM; exact w_1328), nm_OverwalksModel, pd_3, Nat.le_of_ble_eq_true rfl⟩, rfl, w_1327, w_32⟩
theorem ok_X5_walk : MOKv MX5_walk 3 := ⟨⟨w_44, (by unfold cwM; exact w_1305), nm_OverwalksModel, pd_14, Nat.le_of_ble_eq_true rfl⟩, rfl, w_1303, w_1304⟩
theorem ok_X5_next : MOKv MX5_next 1 := ⟨⟨w_44, (by unfold cwM; exact w_1312), nm_OverwalksModel, pd_3, Nat.le_of_ble_eq_true rfl⟩, rfl, w_1310, w_1311⟩
theorem ok_X5_more : MOKv MX5_more 1 := ⟨⟨w_44, (by unfold cwM; exact w_1332), nm_OverwalksModel, pd_3, Nat.le_of_ble_eq_true rfl⟩, rfl, w_1330, w_1331⟩
theorem ok_X5_takeOut : MOKv MX5_takeOut 1 := ⟨⟨w_44, (by unfold cwM; exact w_1336), nm_OverwalksModel, pd_3, Nat.le_of_ble_eq_true rfl⟩, rfl, w_1334, w_1335⟩
theorem ok_X5_left : MOKv MX5_left 1 := ⟨⟨w_44, (by unfold cwM; exact w_1350), nm_OverwalksModel, pd_38, Nat.le_of_ble_eq_true rfl⟩, rfl, w_1349, w_34⟩
theorem ok_X5_sign : MOKs MX5_sign 1 := ⟨⟨w_44, (by unfold cwM; exact w_1360), nm_OverwalksModel, pd_15, Nat.le_of_ble_eq_true rfl⟩, w_1359⟩
theorem ok_X5_text : MOKs MX5_text 1 := ⟨⟨w_44, (by unfold cwM; exact w_1353), nm_OverwalksModel, pd_39, Nat.le_of_ble_eq_true rfl⟩, w_1352⟩
theorem ok_X5_rest : MOKv MX5_rest 1 := ⟨⟨w_44, (by unfold cwM; exact w_1340), nm_OverwalksModel, pd_15, Nat.le_of_ble_eq_true rfl⟩, rfl, w_1338, w_1339⟩
theorem ok_X5_made : MOKv MX5_made 2 := ⟨⟨w_44, (by unfold cwM; exact w_1374), nm_OverwalksModel, pd_40, Nat.le_of_ble_eq_true rfl⟩, rfl, w_1373, w_35⟩
theorem ok_X5_keepRest : MOKv MX5_keepRest 2 := ⟨⟨w_44, (by unfold cwM; exact w_1367), nm_OverwalksModel, pd_6, Nat.le_of_ble_eq_true rfl⟩, rfl, w_1365, w_1366⟩
theorem ok_X5_keep : MOKv MX5_keep 2 := ⟨⟨w_44, (by unfold cwM; exact w_1378), nm_OverwalksModel, pd_6, Nat.le_of_ble_eq_true rfl⟩, rfl, w_1376, w_1377⟩
theorem ok_X5_drop : MOKv MX5_drop 1 := ⟨⟨w_44, (by unfold cwM; exact w_1382), nm_OverwalksModel, pd_3, Nat.le_of_ble_eq_true rfl⟩, rfl, w_1380, w_1381⟩
theorem ok_X5_skip : MOKv MX5_skip 2 := ⟨⟨w_44, (by unfold cwM; exact w_1386), nm_OverwalksModel, pd_6, Nat.le_of_ble_eq_true rfl⟩, rfl, w_1384, w_1385⟩
theorem ok_X5_pourRest : MOKv MX5_pourRest 2 := ⟨⟨w_44, (by unfold cwM; exact w_1390), nm_OverwalksModel, pd_6, Nat.le_of_ble_eq_true rfl⟩, rfl, w_1388, w_1389⟩
theorem ok_X5_zip : MOKv MX5_zip 2 := ⟨⟨w_44, (by unfold cwM; exact w_1394), nm_OverwalksModel, pd_16, Nat.le_of_ble_eq_true rfl⟩, rfl, w_1392, w_1393⟩
theorem ok_X5_text_ : MOKv MX5_text_ 1 := ⟨⟨w_44, (by unfold cwM; exact w_1403), nm_OverwalksModel, pd_15, Nat.le_of_ble_eq_true rfl⟩, rfl, w_1401, w_1402⟩
theorem ok_X5_list : MOKv MX5_list 1 := ⟨⟨w_44, (by unfold cwM; exact w_1407), nm_OverwalksModel, pd_15, Nat.le_of_ble_eq_true rfl⟩, rfl, w_1405, w_1406⟩
theorem ok_X5_size : MOKv MX5_size 1 := ⟨⟨w_44, (by unfold cwM; exact w_1412), nm_OverwalksModel, pd_3, Nat.le_of_ble_eq_true rfl⟩, rfl, w_1410, w_1411⟩
theorem ok_X5_isEmpty : MOKv MX5_isEmpty 1 := ⟨⟨w_44, (by unfold cwM; exact w_1416), nm_OverwalksModel, pd_2, Nat.le_of_ble_eq_true rfl⟩, rfl, w_1414, w_1415⟩
theorem ok_X5_has : MOKv MX5_has 2 := ⟨⟨w_44, (by unfold cwM; exact w_1420), nm_OverwalksModel, pd_6, Nat.le_of_ble_eq_true rfl⟩, rfl, w_1418, w_1419⟩
theorem ok_X5_often : MOKv MX5_often 2 := ⟨⟨w_44, (by unfold cwM; exact w_1424), nm_OverwalksModel, pd_6, Nat.le_of_ble_eq_true rfl⟩, rfl, w_1422, w_1423⟩
theorem ok_X5_placeOf : MOKv MX5_placeOf 3 := ⟨⟨w_44, (by unfold cwM; exact w_1428), nm_OverwalksModel, pd_17, Nat.le_of_ble_eq_true rfl⟩, rfl, w_1426, w_1427⟩
theorem ok_X5_disjoint : MOKv MX5_disjoint 2 := ⟨⟨w_44, (by unfold cwM; exact w_1432), nm_OverwalksModel, pd_6, Nat.le_of_ble_eq_true rfl⟩, rfl, w_1430, w_1431⟩
theorem ok_X5_end : MOKv MX5_end 2 := ⟨⟨w_44, (by unfold cwM; exact w_1436), nm_OverwalksModel, pd_18, Nat.le_of_ble_eq_true rfl⟩, rfl, w_1434, w_1435⟩
theorem ok_X5_code : MOKv MX5_code 1 := ⟨⟨w_44, (by unfold cwM; exact w_1442), nm_OverwalksModel, pd_3, Nat.le_of_ble_eq_true rfl⟩, rfl, w_1440, w_1441⟩
theorem ok_X5_areAlike : MOKv MX5_areAlike 2 := ⟨⟨w_44, (by unfold cwM; exact w_1446), nm_OverwalksModel, pd_4, Nat.le_of_ble_eq_true rfl⟩, rfl, w_1444, w_1445⟩
theorem ok_X5_first : MOKv MX5_first 2 := ⟨⟨w_44, (by unfold cwM; exact w_1450), nm_OverwalksModel, pd_18, Nat.le_of_ble_eq_true rfl⟩, rfl, w_1448, w_1449⟩
theorem ok_X5_valueOf : MOKv MX5_valueOf 1 := ⟨⟨w_44, (by unfold cwM; exact w_1454), nm_OverwalksModel, pd_3, Nat.le_of_ble_eq_true rfl⟩, rfl, w_1452, w_1453⟩
theorem ok_X5_told : MOKv MX5_told 2 := ⟨⟨w_44, (by unfold cwM; exact w_1462), nm_OverwalksModel, pd_6, Nat.le_of_ble_eq_true rfl⟩, rfl, w_1461, w_36⟩
theorem ok_X5_ofWalk : MOKv MX5_ofWalk 2 := ⟨⟨w_44, (by unfold cwM; exact w_1458), nm_OverwalksModel, pd_6, Nat.le_of_ble_eq_true rfl⟩, rfl, w_1456, w_1457⟩
theorem ok_X5_houseTold : MOKv MX5_houseTold 1 := ⟨⟨w_44, (by unfold cwM; exact w_1470), nm_OverwalksModel, pd_3, Nat.le_of_ble_eq_true rfl⟩, rfl, w_1469, w_37⟩
theorem ok_X5_house : MOKv MX5_house 1 := ⟨⟨w_44, (by unfold cwM; exact w_1466), nm_OverwalksModel, pd_3, Nat.le_of_ble_eq_true rfl⟩, rfl, w_1464, w_1465⟩
theorem ok_X5_knock : MOKv MX5_knock 0 := ⟨⟨w_44, (by unfold cwM; exact w_1474), nm_OverwalksModel, pd_12, Nat.le_of_ble_eq_true rfl⟩, rfl, w_1472, w_1473⟩
theorem ok_X5_isSound : MOKv MX5_isSound 0 := ⟨⟨w_44, (by unfold cwM; exact w_1478), nm_OverwalksModel, pd_1, Nat.le_of_ble_eq_true rfl⟩, rfl, w_1476, w_1477⟩
theorem ok_X5_digest : MOKv MX5_digest 0 := ⟨⟨w_44, (by unfold cwM; exact w_1482), nm_OverwalksModel, pd_19, Nat.le_of_ble_eq_true rfl⟩, rfl, w_1480, w_1481⟩
theorem ok_J5_init_d00df : MOKi MJ5_init_d00df 1 := ⟨⟨w_53, (by unfold cwM; exact w_688), nm_java_lang_AbstractStringBuilder, pd_8, Nat.le_of_ble_eq_true rfl⟩, rfl, w_687, rfl, rfl⟩
theorem ok_J6_getChars_ba4f3 : MOKs MJ6_getChars_ba4f3 3 := ⟨⟨w_62, (by unfold cwM; exact w_825), nm_java_lang_Integer, pd_48, Nat.le_of_ble_eq_true rfl⟩, w_824⟩
theorem ok_J6_stringSize_0f7a4 : MOKs MJ6_stringSize_0f7a4 1 := ⟨⟨w_62, (by unfold cwM; exact w_822), nm_java_lang_Integer, pd_3, Nat.le_of_ble_eq_true rfl⟩, w_821⟩
theorem ok_J9_floorMod_7cf53 : MOKs MJ9_floorMod_7cf53 2 := ⟨⟨w_52, (by unfold cwM; exact w_586), nm_java_lang_Math, pd_6, Nat.le_of_ble_eq_true rfl⟩, w_585⟩
theorem ok_J9_max_7cf53 : MOKs MJ9_max_7cf53 2 := ⟨⟨w_52, (by unfold cwM; exact w_735), nm_java_lang_Math, pd_6, Nat.le_of_ble_eq_true rfl⟩, w_734⟩
theorem ok_J9_min_7cf53 : MOKs MJ9_min_7cf53 2 := ⟨⟨w_52, (by unfold cwM; exact w_753), nm_java_lang_Math, pd_6, Nat.le_of_ble_eq_true rfl⟩, w_752⟩
theorem ok_J0_init_81219 : MOKi MJ0_init_81219 1 := ⟨⟨w_55, (by unfold cwM; exact w_855), nm_java_lang_String, pd_49, Nat.le_of_ble_eq_true rfl⟩, rfl, w_854, rfl, rfl⟩
theorem ok_J0_length_8abf5 : MOKv MJ0_length_8abf5 0 := ⟨⟨w_55, (by unfold cwM; exact w_905), nm_java_lang_String, pd_12, Nat.le_of_ble_eq_true rfl⟩, rfl, w_903, w_904⟩
theorem ok_J0_isEmpty_aae02 : MOKv MJ0_isEmpty_aae02 0 := ⟨⟨w_55, (by unfold cwM; exact w_1398), nm_java_lang_String, pd_1, Nat.le_of_ble_eq_true rfl⟩, rfl, w_1396, w_1397⟩
theorem ok_J0_getBytes_840e7 : MOKv MJ0_getBytes_840e7 3 := ⟨⟨w_55, (by unfold cwM; exact w_923), nm_java_lang_String, pd_50, Nat.le_of_ble_eq_true rfl⟩, rfl, w_921, w_922⟩
theorem ok_J0_init_db425 : MOKi MJ0_init_db425 2 := ⟨⟨w_55, (by unfold cwM; exact w_858), nm_java_lang_String, pd_51, Nat.le_of_ble_eq_true rfl⟩, rfl, w_857, rfl, rfl⟩
theorem ok_J0_coder_7d493 : MOKv MJ0_coder_7d493 0 := ⟨⟨w_55, (by unfold cwM; exact w_909), nm_java_lang_String, pd_52, Nat.le_of_ble_eq_true rfl⟩, rfl, w_907, w_908⟩
theorem ok_J0_checkIndex_df160 : MOKs MJ0_checkIndex_df160 2 := ⟨⟨w_55, (by unfold cwM; exact w_806), nm_java_lang_String, pd_7, Nat.le_of_ble_eq_true rfl⟩, w_805⟩
theorem ok_J0_checkBoundsOffCount_cabcc : MOKs MJ0_checkBoundsOffCount_cabcc 3 := ⟨⟨w_55, (by unfold cwM; exact w_783), nm_java_lang_String, pd_14, Nat.le_of_ble_eq_true rfl⟩, w_782⟩
theorem ok_J0_checkBoundsBeginEnd_23922 : MOKs MJ0_checkBoundsBeginEnd_23922 3 := ⟨⟨w_55, (by unfold cwM; exact w_838), nm_java_lang_String, pd_35, Nat.le_of_ble_eq_true rfl⟩, w_837⟩
theorem ok_J4_init_da8c8 : MOKi MJ4_init_da8c8 0 := ⟨⟨w_54, (by unfold cwM; exact w_685), nm_java_lang_StringBuilder, pd_5, Nat.le_of_ble_eq_true rfl⟩, rfl, w_684, rfl, rfl⟩
theorem ok_J4_append_15ec4 : MOKv MJ4_append_15ec4 1 := ⟨⟨w_54, (by unfold cwM; exact w_891), nm_java_lang_StringBuilder, pd_53, Nat.le_of_ble_eq_true rfl⟩, rfl, w_889, w_890⟩
theorem ok_J4_append_cf468 : MOKv MJ4_append_cf468 1 := ⟨⟨w_54, (by unfold cwM; exact w_718), nm_java_lang_StringBuilder, pd_54, Nat.le_of_ble_eq_true rfl⟩, rfl, w_716, w_717⟩
theorem ok_J4_append_bf812 : MOKv MJ4_append_bf812 1 := ⟨⟨w_54, (by unfold cwM; exact w_816), nm_java_lang_StringBuilder, pd_55, Nat.le_of_ble_eq_true rfl⟩, rfl, w_814, w_815⟩
theorem ok_J4_toString_0e30d : MOKv MJ4_toString_0e30d 0 := ⟨⟨w_54, (by unfold cwM; exact w_850), nm_java_lang_StringBuilder, pd_34, Nat.le_of_ble_eq_true rfl⟩, rfl, w_848, w_849⟩
theorem ok_J1_canEncode_fc78d : MOKs MJ1_canEncode_fc78d 1 := ⟨⟨w_60, (by unfold cwM; exact w_764), nm_java_lang_StringLatin1, pd_56, Nat.le_of_ble_eq_true rfl⟩, w_763⟩
theorem ok_J1_inflate_0e8fd : MOKs MJ1_inflate_0e8fd 5 := ⟨⟨w_60, (by unfold cwM; exact w_771), nm_java_lang_StringLatin1, pd_57, Nat.le_of_ble_eq_true rfl⟩, w_770⟩
theorem ok_J2_newBytesFor_77867 : MOKs MJ2_newBytesFor_77867 1 := ⟨⟨w_56, (by unfold cwM; exact w_694), nm_java_lang_StringUTF16, pd_58, Nat.le_of_ble_eq_true rfl⟩, w_693⟩
theorem ok_J2_newBytesLength_0f7a4 : MOKs MJ2_newBytesLength_0f7a4 1 := ⟨⟨w_56, (by unfold cwM; exact w_697), nm_java_lang_StringUTF16, pd_3, Nat.le_of_ble_eq_true rfl⟩, w_696⟩
theorem ok_J2_putChar_b72d1 : MOKs MJ2_putChar_b72d1 3 := ⟨⟨w_56, (by unfold cwM; exact w_791), nm_java_lang_StringUTF16, pd_59, Nat.le_of_ble_eq_true rfl⟩, w_790⟩
theorem ok_J2_getChar_3b067 : MOKs MJ2_getChar_3b067 2 := ⟨⟨w_56, (by unfold cwM; exact w_936), nm_java_lang_StringUTF16, pd_60, Nat.le_of_ble_eq_true rfl⟩, w_935⟩
theorem ok_J2_length_9d52b : MOKs MJ2_length_9d52b 1 := ⟨⟨w_56, (by unfold cwM; exact w_780), nm_java_lang_StringUTF16, pd_61, Nat.le_of_ble_eq_true rfl⟩, w_779⟩
theorem ok_J2_coderFromArrayLen_85cad : MOKs MJ2_coderFromArrayLen_85cad 2 := ⟨⟨w_56, (by unfold cwM; exact w_940), nm_java_lang_StringUTF16, pd_62, Nat.le_of_ble_eq_true rfl⟩, w_939⟩
theorem ok_J2_compress_39247 : MOKs MJ2_compress_39247 3 := ⟨⟨w_56, (by unfold cwM; exact w_930), nm_java_lang_StringUTF16, pd_63, Nat.le_of_ble_eq_true rfl⟩, w_929⟩
theorem ok_J2_compress_5af95 : MOKs MJ2_compress_5af95 5 := ⟨⟨w_56, (by unfold cwM; exact w_933), nm_java_lang_StringUTF16, pd_64, Nat.le_of_ble_eq_true rfl⟩, w_932⟩
theorem ok_J2_putCharSB_b72d1 : MOKs MJ2_putCharSB_b72d1 3 := ⟨⟨w_56, (by unfold cwM; exact w_800), nm_java_lang_StringUTF16, pd_59, Nat.le_of_ble_eq_true rfl⟩, w_799⟩
theorem ok_J2_getChars_46870 : MOKs MJ2_getChars_46870 4 := ⟨⟨w_56, (by unfold cwM; exact w_832), nm_java_lang_StringUTF16, pd_65, Nat.le_of_ble_eq_true rfl⟩, w_831⟩
theorem ok_J2_putCharsAt_cd4e5 : MOKs MJ2_putCharsAt_cd4e5 6 := ⟨⟨w_56, (by unfold cwM; exact w_901), nm_java_lang_StringUTF16, pd_66, Nat.le_of_ble_eq_true rfl⟩, w_900⟩
theorem ok_J2_inflate_0e8fd : MOKs MJ2_inflate_0e8fd 5 := ⟨⟨w_56, (by unfold cwM; exact w_774), nm_java_lang_StringUTF16, pd_57, Nat.le_of_ble_eq_true rfl⟩, w_773⟩
theorem ok_J2_getChars_ba4f3 : MOKs MJ2_getChars_ba4f3 3 := ⟨⟨w_56, (by unfold cwM; exact w_844), nm_java_lang_StringUTF16, pd_48, Nat.le_of_ble_eq_true rfl⟩, w_843⟩
theorem ok_J2_checkIndex_2214a : MOKs MJ2_checkIndex_2214a 2 := ⟨⟨w_56, (by unfold cwM; exact w_803), nm_java_lang_StringUTF16, pd_67, Nat.le_of_ble_eq_true rfl⟩, w_802⟩
theorem ok_J2_checkBoundsBeginEnd_d044e : MOKs MJ2_checkBoundsBeginEnd_d044e 3 := ⟨⟨w_56, (by unfold cwM; exact w_835), nm_java_lang_StringUTF16, pd_68, Nat.le_of_ble_eq_true rfl⟩, w_834⟩
theorem ok_J2_checkBoundsOffCount_d044e : MOKs MJ2_checkBoundsOffCount_d044e 3 := ⟨⟨w_56, (by unfold cwM; exact w_777), nm_java_lang_StringUTF16, pd_68, Nat.le_of_ble_eq_true rfl⟩, w_776⟩
theorem ok_J7_copyOf_9075b : MOKs MJ7_copyOf_9075b 2 := ⟨⟨w_58, (by unfold cwM; exact w_743), nm_java_util_Arrays, pd_69, Nat.le_of_ble_eq_true rfl⟩, w_742⟩
theorem ok_J7_checkLength_df160 : MOKs MJ7_checkLength_df160 2 := ⟨⟨w_58, (by unfold cwM; exact w_882), nm_java_util_Arrays, pd_7, Nat.le_of_ble_eq_true rfl⟩, w_881⟩
theorem ok_J7_copyOfRange_39247 : MOKs MJ7_copyOfRange_39247 3 := ⟨⟨w_58, (by unfold cwM; exact w_876), nm_java_util_Arrays, pd_63, Nat.le_of_ble_eq_true rfl⟩, w_875⟩
theorem ok_J7_copyOfRangeByte_39247 : MOKs MJ7_copyOfRangeByte_39247 3 := ⟨⟨w_58, (by unfold cwM; exact w_879), nm_java_util_Arrays, pd_63, Nat.le_of_ble_eq_true rfl⟩, w_878⟩
theorem ok_J8_newLength_cabcc : MOKs MJ8_newLength_cabcc 3 := ⟨⟨w_57, (by unfold cwM; exact w_732), nm_jdk_internal_util_ArraysSupport, pd_14, Nat.le_of_ble_eq_true rfl⟩, w_731⟩
theorem ok_J8_hugeLength_7cf53 : MOKs MJ8_hugeLength_7cf53 2 := ⟨⟨w_57, (by unfold cwM; exact w_739), nm_jdk_internal_util_ArraysSupport, pd_6, Nat.le_of_ble_eq_true rfl⟩, w_738⟩
theorem ok_J3_checkIndex_8e157 : MOKs MJ3_checkIndex_8e157 3 := ⟨⟨w_61, (by unfold cwM; exact w_809), nm_jdk_internal_util_Preconditions, pd_70, Nat.le_of_ble_eq_true rfl⟩, w_808⟩
theorem ok_J3_checkFromToIndex_8c36e : MOKs MJ3_checkFromToIndex_8c36e 4 := ⟨⟨w_61, (by unfold cwM; exact w_841), nm_jdk_internal_util_Preconditions, pd_71, Nat.le_of_ble_eq_true rfl⟩, w_840⟩
theorem ok_J3_checkFromIndexSize_8c36e : MOKs MJ3_checkFromIndexSize_8c36e 4 := ⟨⟨w_61, (by unfold cwM; exact w_788), nm_jdk_internal_util_Preconditions, pd_71, Nat.le_of_ble_eq_true rfl⟩, w_787⟩
theorem ok_L_put : MOKs ML_put 4 := ⟨⟨w_38, (by unfold cwM; exact w_394), nm_OverwalksLaw, pd_72, Nat.le_of_ble_eq_true rfl⟩, w_393⟩
theorem ok_L_putAll : MOKs ML_putAll 7 := ⟨⟨w_38, (by unfold cwM; exact w_459), nm_OverwalksLaw, pd_73, Nat.le_of_ble_eq_true rfl⟩, w_458⟩
theorem ok_L_take : MOKs ML_take 4 := ⟨⟨w_38, (by unfold cwM; exact w_476), nm_OverwalksLaw, pd_72, Nat.le_of_ble_eq_true rfl⟩, w_475⟩
theorem ok_L_clear : MOKs ML_clear 3 := ⟨⟨w_38, (by unfold cwM; exact w_492), nm_OverwalksLaw, pd_74, Nat.le_of_ble_eq_true rfl⟩, w_491⟩
theorem ok_L_pair : MOKs ML_pair 4 := ⟨⟨w_38, (by unfold cwM; exact w_503), nm_OverwalksLaw, pd_72, Nat.le_of_ble_eq_true rfl⟩, w_502⟩
theorem ok_L_pour : MOKs ML_pour 4 := ⟨⟨w_38, (by unfold cwM; exact w_519), nm_OverwalksLaw, pd_72, Nat.le_of_ble_eq_true rfl⟩, w_518⟩
theorem ok_L_change : MOKs ML_change 5 := ⟨⟨w_38, (by unfold cwM; exact w_536), nm_OverwalksLaw, pd_75, Nat.le_of_ble_eq_true rfl⟩, w_535⟩
theorem ok_L_insert : MOKs ML_insert 5 := ⟨⟨w_38, (by unfold cwM; exact w_552), nm_OverwalksLaw, pd_75, Nat.le_of_ble_eq_true rfl⟩, w_551⟩
theorem ok_L_remove : MOKs ML_remove 4 := ⟨⟨w_38, (by unfold cwM; exact w_559), nm_OverwalksLaw, pd_72, Nat.le_of_ble_eq_true rfl⟩, w_558⟩
theorem ok_L_turn : MOKs ML_turn 3 := ⟨⟨w_38, (by unfold cwM; exact w_566), nm_OverwalksLaw, pd_74, Nat.le_of_ble_eq_true rfl⟩, w_565⟩
theorem ok_L_rotate : MOKs ML_rotate 4 := ⟨⟨w_38, (by unfold cwM; exact w_578), nm_OverwalksLaw, pd_72, Nat.le_of_ble_eq_true rfl⟩, w_577⟩
theorem ok_L_swap : MOKs ML_swap 5 := ⟨⟨w_38, (by unfold cwM; exact w_594), nm_OverwalksLaw, pd_75, Nat.le_of_ble_eq_true rfl⟩, w_593⟩
theorem ok_L_fill : MOKs ML_fill 4 := ⟨⟨w_38, (by unfold cwM; exact w_601), nm_OverwalksLaw, pd_72, Nat.le_of_ble_eq_true rfl⟩, w_600⟩
theorem ok_L_replace : MOKs ML_replace 5 := ⟨⟨w_38, (by unfold cwM; exact w_608), nm_OverwalksLaw, pd_75, Nat.le_of_ble_eq_true rfl⟩, w_607⟩
theorem ok_L_copies : MOKs ML_copies 5 := ⟨⟨w_38, (by unfold cwM; exact w_615), nm_OverwalksLaw, pd_75, Nat.le_of_ble_eq_true rfl⟩, w_614⟩
theorem ok_L_walk : MOKs ML_walk 5 := ⟨⟨w_38, (by unfold cwM; exact w_626), nm_OverwalksLaw, pd_75, Nat.le_of_ble_eq_true rfl⟩, w_625⟩
theorem ok_L_next : MOKs ML_next 3 := ⟨⟨w_38, (by unfold cwM; exact w_635), nm_OverwalksLaw, pd_74, Nat.le_of_ble_eq_true rfl⟩, w_634⟩
theorem ok_L_more : MOKs ML_more 3 := ⟨⟨w_38, (by unfold cwM; exact w_646), nm_OverwalksLaw, pd_74, Nat.le_of_ble_eq_true rfl⟩, w_645⟩
theorem ok_L_takeOut : MOKs ML_takeOut 3 := ⟨⟨w_38, (by unfold cwM; exact w_653), nm_OverwalksLaw, pd_74, Nat.le_of_ble_eq_true rfl⟩, w_652⟩
theorem ok_L_rest : MOKs ML_rest 3 := ⟨⟨w_38, (by unfold cwM; exact w_668), nm_OverwalksLaw, pd_74, Nat.le_of_ble_eq_true rfl⟩, w_667⟩
theorem ok_L_keepRest : MOKs ML_keepRest 4 := ⟨⟨w_38, (by unfold cwM; exact w_954), nm_OverwalksLaw, pd_72, Nat.le_of_ble_eq_true rfl⟩, w_953⟩
theorem ok_L_keep : MOKs ML_keep 4 := ⟨⟨w_38, (by unfold cwM; exact w_966), nm_OverwalksLaw, pd_72, Nat.le_of_ble_eq_true rfl⟩, w_965⟩
theorem ok_L_drop : MOKs ML_drop 3 := ⟨⟨w_38, (by unfold cwM; exact w_973), nm_OverwalksLaw, pd_74, Nat.le_of_ble_eq_true rfl⟩, w_972⟩
theorem ok_L_skip : MOKs ML_skip 4 := ⟨⟨w_38, (by unfold cwM; exact w_980), nm_OverwalksLaw, pd_72, Nat.le_of_ble_eq_true rfl⟩, w_979⟩
theorem ok_L_pourRest : MOKs ML_pourRest 4 := ⟨⟨w_38, (by unfold cwM; exact w_987), nm_OverwalksLaw, pd_72, Nat.le_of_ble_eq_true rfl⟩, w_986⟩
theorem ok_L_zip : MOKs ML_zip 4 := ⟨⟨w_38, (by unfold cwM; exact w_994), nm_OverwalksLaw, pd_72, Nat.le_of_ble_eq_true rfl⟩, w_993⟩
theorem ok_L_text : MOKs ML_text 3 := ⟨⟨w_38, (by unfold cwM; exact w_1002), nm_OverwalksLaw, pd_74, Nat.le_of_ble_eq_true rfl⟩, w_1001⟩
theorem ok_L_list : MOKs ML_list 3 := ⟨⟨w_38, (by unfold cwM; exact w_1009), nm_OverwalksLaw, pd_74, Nat.le_of_ble_eq_true rfl⟩, w_1008⟩
theorem ok_L_size : MOKs ML_size 3 := ⟨⟨w_38, (by unfold cwM; exact w_1016), nm_OverwalksLaw, pd_74, Nat.le_of_ble_eq_true rfl⟩, w_1015⟩
theorem ok_L_isEmpty : MOKs ML_isEmpty 3 := ⟨⟨w_38, (by unfold cwM; exact w_1023), nm_OverwalksLaw, pd_74, Nat.le_of_ble_eq_true rfl⟩, w_1022⟩
theorem ok_L_has : MOKs ML_has 4 := ⟨⟨w_38, (by unfold cwM; exact w_1030), nm_OverwalksLaw, pd_72, Nat.le_of_ble_eq_true rfl⟩, w_1029⟩
theorem ok_L_often : MOKs ML_often 4 := ⟨⟨w_38, (by unfold cwM; exact w_1037), nm_OverwalksLaw, pd_72, Nat.le_of_ble_eq_true rfl⟩, w_1036⟩
theorem ok_L_placeOf : MOKs ML_placeOf 5 := ⟨⟨w_38, (by unfold cwM; exact w_1044), nm_OverwalksLaw, pd_76, Nat.le_of_ble_eq_true rfl⟩, w_1043⟩
theorem ok_L_disjoint : MOKs ML_disjoint 4 := ⟨⟨w_38, (by unfold cwM; exact w_1055), nm_OverwalksLaw, pd_72, Nat.le_of_ble_eq_true rfl⟩, w_1054⟩
theorem ok_L_end : MOKs ML_end 4 := ⟨⟨w_38, (by unfold cwM; exact w_1062), nm_OverwalksLaw, pd_77, Nat.le_of_ble_eq_true rfl⟩, w_1061⟩
theorem ok_L_code : MOKs ML_code 3 := ⟨⟨w_38, (by unfold cwM; exact w_1071), nm_OverwalksLaw, pd_74, Nat.le_of_ble_eq_true rfl⟩, w_1070⟩
theorem ok_L_areAlike : MOKs ML_areAlike 4 := ⟨⟨w_38, (by unfold cwM; exact w_1078), nm_OverwalksLaw, pd_72, Nat.le_of_ble_eq_true rfl⟩, w_1077⟩
theorem ok_L_first : MOKs ML_first 4 := ⟨⟨w_38, (by unfold cwM; exact w_1085), nm_OverwalksLaw, pd_77, Nat.le_of_ble_eq_true rfl⟩, w_1084⟩
theorem ok_L_valueOf : MOKs ML_valueOf 3 := ⟨⟨w_38, (by unfold cwM; exact w_1092), nm_OverwalksLaw, pd_74, Nat.le_of_ble_eq_true rfl⟩, w_1091⟩
theorem ok_L_ofWalk : MOKs ML_ofWalk 4 := ⟨⟨w_38, (by unfold cwM; exact w_1099), nm_OverwalksLaw, pd_72, Nat.le_of_ble_eq_true rfl⟩, w_1098⟩
theorem ok_L_house : MOKs ML_house 3 := ⟨⟨w_38, (by unfold cwM; exact w_1103), nm_OverwalksLaw, pd_74, Nat.le_of_ble_eq_true rfl⟩, w_1102⟩
end
section
/-! 12p.plain -/
/-! classes of plain names -/
theorem pn_Overwalks : plainName "Overwalks" = true := by decide +kernel
theorem pn_OverwalksLaw : plainName "OverwalksLaw" = true := by decide +kernel
theorem pn_OverwalksLaw_Out : plainName "OverwalksLaw$Out" = true := by decide +kernel
theorem pn_OverwalksModel : plainName "OverwalksModel" = true := by decide +kernel
theorem pn_Overwalks_Shelf : plainName "Overwalks$Shelf" = true := by decide +kernel
theorem pn_Overwalks_Walk : plainName "Overwalks$Walk" = true := by decide +kernel
theorem pn_java_lang_AbstractStringBuilder : plainName "java/lang/AbstractStringBuilder" = true := by decide +kernel
theorem pn_java_lang_Integer : plainName "java/lang/Integer" = true := by decide +kernel
theorem pn_java_lang_String : plainName "java/lang/String" = true := by decide +kernel
theorem pn_java_lang_StringBuilder : plainName "java/lang/StringBuilder" = true := by decide +kernel
theorem pn_java_lang_StringLatin1 : plainName "java/lang/StringLatin1" = true := by decide +kernel
theorem pn_java_util_Arrays : plainName "java/util/Arrays" = true := by decide +kernel
theorem pn_jdk_internal_util_ArraysSupport : plainName "jdk/internal/util/ArraysSupport" = true := by decide +kernel
end
section
/-! 12t.throws -/
theorem th_Overwalks_154 : thOK "Overwalks" 154 "java/lang/IllegalArgumentException" ["java/lang/RuntimeException", "java/lang/Exception"] := ⟨Or.inl ⟨rfl, w_46⟩, Or.inl ⟨rfl, w_307⟩, Or.inl ⟨rfl, w_316⟩, Or.inl ⟨rfl, w_320⟩, Or.inl ⟨rfl, w_323⟩, Or.inl ⟨rfl, w_325⟩, Or.inl ⟨rfl, w_308⟩, Or.inl ⟨rfl, w_309⟩, Or.inl ⟨rfl, w_69⟩, Or.inl ⟨rfl, w_70⟩, Or.inl ⟨rfl, w_310⟩, Or.inl ⟨rfl, w_315⟩, Or.inl ⟨rfl, w_321⟩, Or.inl ⟨rfl, w_341⟩, Or.inl ⟨rfl, w_297⟩, Or.inl ⟨rfl, w_342⟩, Or.inl ⟨rfl, w_299⟩, Or.inl ⟨rfl, w_343⟩, Or.inl ⟨rfl, w_301⟩, Or.inl ⟨rfl, w_311⟩, Or.inr (Or.inr (by decide +kernel)), Or.inl ⟨rfl, w_313⟩, Or.inr (Or.inr (by decide +kernel)), Or.inl ⟨rfl, w_303⟩, Or.inl ⟨rfl, w_337⟩, Or.inl ⟨rfl, w_338⟩, Or.inl ⟨rfl, w_340⟩, Or.inl ⟨rfl, w_303⟩, Or.inl ⟨rfl, w_328⟩, Or.inl ⟨rfl, w_329⟩, Or.inl ⟨rfl, w_330⟩, Or.inl ⟨rfl, w_331⟩, Or.inr (Or.inl ⟨rfl, v_251⟩), Or.inl ⟨rfl, w_331⟩, Or.inl ⟨rfl, w_332⟩, Or.inl ⟨rfl, w_333⟩, Or.inl ⟨rfl, w_334⟩, Or.inr (Or.inl ⟨rfl, v_253⟩), Or.inl ⟨rfl, w_334⟩, Or.inl ⟨rfl, w_335⟩, Or.inl ⟨rfl, w_336⟩, Or.inl ⟨rfl, w_337⟩, Or.inr (Or.inl ⟨rfl, v_255⟩), Or.inl ⟨rfl, w_327⟩, Or.inl ⟨rfl, w_286⟩, Or.inr (Or.inl ⟨rfl, v_249⟩), Or.inl ⟨rfl, w_294⟩, Or.inl ⟨rfl, w_295⟩, Or.inl ⟨rfl, w_296⟩, Or.inl ⟨rfl, w_298⟩, Or.inl ⟨rfl, w_300⟩, Or.inl ⟨rfl, w_302⟩, Or.inr (Or.inr (by decide +kernel)), Or.inr (Or.inr (by decide +kernel)), Or.inl ⟨rfl, w_306⟩, Or.inl ⟨rfl, w_305⟩, Or.inl ⟨rfl, w_304⟩, trivial⟩
theorem th_Overwalks_339 : thOK "Overwalks" 339 "java/lang/IndexOutOfBoundsException" ["java/lang/RuntimeException", "java/lang/Exception"] := ⟨Or.inl ⟨rfl, w_46⟩, Or.inl ⟨rfl, w_307⟩, Or.inl ⟨rfl, w_316⟩, Or.inl ⟨rfl, w_320⟩, Or.inl ⟨rfl, w_323⟩, Or.inl ⟨rfl, w_325⟩, Or.inl ⟨rfl, w_308⟩, Or.inl ⟨rfl, w_309⟩, Or.inl ⟨rfl, w_69⟩, Or.inl ⟨rfl, w_70⟩, Or.inl ⟨rfl, w_310⟩, Or.inl ⟨rfl, w_315⟩, Or.inl ⟨rfl, w_321⟩, Or.inl ⟨rfl, w_341⟩, Or.inl ⟨rfl, w_297⟩, Or.inl ⟨rfl, w_342⟩, Or.inl ⟨rfl, w_299⟩, Or.inl ⟨rfl, w_343⟩, Or.inl ⟨rfl, w_301⟩, Or.inl ⟨rfl, w_311⟩, Or.inr (Or.inr (by decide +kernel)), Or.inl ⟨rfl, w_313⟩, Or.inr (Or.inr (by decide +kernel)), Or.inl ⟨rfl, w_303⟩, Or.inl ⟨rfl, w_337⟩, Or.inl ⟨rfl, w_338⟩, Or.inl ⟨rfl, w_340⟩, Or.inl ⟨rfl, w_303⟩, Or.inl ⟨rfl, w_372⟩, Or.inl ⟨rfl, w_373⟩, Or.inl ⟨rfl, w_374⟩, Or.inl ⟨rfl, w_331⟩, Or.inr (Or.inl ⟨rfl, v_251⟩), Or.inl ⟨rfl, w_331⟩, Or.inl ⟨rfl, w_332⟩, Or.inl ⟨rfl, w_333⟩, Or.inl ⟨rfl, w_334⟩, Or.inr (Or.inl ⟨rfl, v_253⟩), Or.inl ⟨rfl, w_334⟩, Or.inl ⟨rfl, w_335⟩, Or.inl ⟨rfl, w_336⟩, Or.inl ⟨rfl, w_337⟩, Or.inr (Or.inl ⟨rfl, v_255⟩), Or.inl ⟨rfl, w_371⟩, Or.inl ⟨rfl, w_362⟩, Or.inr (Or.inl ⟨rfl, v_325⟩), Or.inl ⟨rfl, w_364⟩, Or.inl ⟨rfl, w_319⟩, Or.inl ⟨rfl, w_365⟩, Or.inl ⟨rfl, w_366⟩, Or.inl ⟨rfl, w_367⟩, Or.inl ⟨rfl, w_368⟩, Or.inr (Or.inr (by decide +kernel)), Or.inr (Or.inr (by decide +kernel)), Or.inl ⟨rfl, w_306⟩, Or.inl ⟨rfl, w_305⟩, Or.inl ⟨rfl, w_369⟩, trivial⟩
theorem th_Overwalks_356 : thOK "Overwalks" 356 "java/lang/IllegalStateException" ["java/lang/RuntimeException", "java/lang/Exception"] := ⟨Or.inl ⟨rfl, w_46⟩, Or.inl ⟨rfl, w_307⟩, Or.inl ⟨rfl, w_316⟩, Or.inl ⟨rfl, w_320⟩, Or.inl ⟨rfl, w_323⟩, Or.inl ⟨rfl, w_325⟩, Or.inl ⟨rfl, w_308⟩, Or.inl ⟨rfl, w_309⟩, Or.inl ⟨rfl, w_69⟩, Or.inl ⟨rfl, w_70⟩, Or.inl ⟨rfl, w_310⟩, Or.inl ⟨rfl, w_315⟩, Or.inl ⟨rfl, w_321⟩, Or.inl ⟨rfl, w_341⟩, Or.inl ⟨rfl, w_297⟩, Or.inl ⟨rfl, w_342⟩, Or.inl ⟨rfl, w_299⟩, Or.inl ⟨rfl, w_343⟩, Or.inl ⟨rfl, w_301⟩, Or.inl ⟨rfl, w_311⟩, Or.inr (Or.inr (by decide +kernel)), Or.inl ⟨rfl, w_313⟩, Or.inr (Or.inr (by decide +kernel)), Or.inl ⟨rfl, w_303⟩, Or.inl ⟨rfl, w_337⟩, Or.inl ⟨rfl, w_338⟩, Or.inl ⟨rfl, w_340⟩, Or.inl ⟨rfl, w_303⟩, Or.inl ⟨rfl, w_425⟩, Or.inl ⟨rfl, w_426⟩, Or.inl ⟨rfl, w_427⟩, Or.inl ⟨rfl, w_331⟩, Or.inr (Or.inl ⟨rfl, v_251⟩), Or.inl ⟨rfl, w_331⟩, Or.inl ⟨rfl, w_332⟩, Or.inl ⟨rfl, w_333⟩, Or.inl ⟨rfl, w_334⟩, Or.inr (Or.inl ⟨rfl, v_253⟩), Or.inl ⟨rfl, w_334⟩, Or.inl ⟨rfl, w_335⟩, Or.inl ⟨rfl, w_336⟩, Or.inl ⟨rfl, w_337⟩, Or.inr (Or.inl ⟨rfl, v_255⟩), Or.inl ⟨rfl, w_424⟩, Or.inl ⟨rfl, w_415⟩, Or.inr (Or.inl ⟨rfl, v_378⟩), Or.inl ⟨rfl, w_417⟩, Or.inl ⟨rfl, w_318⟩, Or.inl ⟨rfl, w_418⟩, Or.inl ⟨rfl, w_419⟩, Or.inl ⟨rfl, w_420⟩, Or.inl ⟨rfl, w_421⟩, Or.inr (Or.inr (by decide +kernel)), Or.inr (Or.inr (by decide +kernel)), Or.inl ⟨rfl, w_306⟩, Or.inl ⟨rfl, w_305⟩, Or.inl ⟨rfl, w_422⟩, trivial⟩
end
