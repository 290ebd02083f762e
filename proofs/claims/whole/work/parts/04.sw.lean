/-! the judgements -/
/-- words that hold of the tables for good but are no 'good words': nest links, castable, declares .. -/
def nwf (w : Cond) : Bool := match w with
  | .fieldLinkNest .. => true
  | .methodLinkNest .. => true
  | .castable .. => true
  | .declares _ => true
  | _ => false
def NW : List Cond := lw_tbl.filter nwf
/-- String constants: class, entry, text, number -/
abbrev SRT : Type := List (String × Nat × String × Nat)
def NWs (U : State) : Prop := ∀ w ∈ NW, va_Nw w U
theorem NWs.warm {s U : State} (hW : s.WarmedH U.vm) (h : NWs s) : NWs U := by
  intro w hw
  have h1 := h w hw
  have h2 := (List.mem_filter.mp hw).2
  cases w <;> first | (simp [nwf] at h2; done) | exact va_Nw.warmF hW h1 | exact va_Nw.warmM hW h1 | exact va_Nw.warmC hW h1 | exact va_Nw.warmD hW h1
/-- the exceptions that are thrown: none is another one -/
def XP : List (String × String) := [("java/lang/IndexOutOfBoundsException", "java/lang/IllegalArgumentException"), ("java/lang/IndexOutOfBoundsException", "java/lang/IllegalStateException"), ("java/lang/IllegalArgumentException", "java/lang/IndexOutOfBoundsException"), ("java/lang/IllegalArgumentException", "java/lang/IllegalStateException"), ("java/lang/IllegalStateException", "java/lang/IndexOutOfBoundsException"), ("java/lang/IllegalStateException", "java/lang/IllegalArgumentException")]
/-- array classes over classes of ours; the exceptions -/
def AOs (U : State) : Prop := va_AO RX1 U ∧ va_AO RX2 U ∧ va_AOA .int U ∧ ∀ q ∈ XP, va_Nc q.1 q.2 U
theorem AOs.moved {u U : State} (hvm : u.vm.Alike U.vm) (h : AOs u) : AOs U := ⟨va_AO.moved hvm h.1, va_AO.moved hvm h.2.1, arrayOver_alikeB hvm h.2.2.1, fun q hq => va_Nc.moved hvm (h.2.2.2 q hq)⟩
def RM (d : Nat) (R : Room) : Prop := 2 * d + 10 ≤ R.frames ∧ 100 * d + 200 ≤ R.locals
def rmOf (d bc bs : Nat) : Room := { frames := 2 * d + 10, cells := bc, slots := bs, locals := 100 * d + 200 }
def cwM (M : MI) : Cond := if M.2.2.2.2 = [] then Cond.code M.1 M.2.1 M.2.2.1 M.2.2.2.1 else Cond.codeWith M.1 M.2.1 M.2.2.1 M.2.2.2.1 M.2.2.2.2
def wsM (M : MI) : List Cond := cwM M :: GT
/-- what stands still in a frame of method M -/
def CX (SR : SRT) (G : GD) (M : MI) (p : Program) (l : Launch) (s : State) (m : MethodId) (args : Array Value) (meth : Method) (c : Code) (A : Nat → Prop) : Prop :=
  p.tables.exec = Jvm.exec ∧ c.code = M.2.1 ∧ meth.sig.returnType = M.2.2.2.1 ∧ c.maxLocals = M.2.2.1 ∧ s.vm.findClass M.1.cls = some m.cls ∧ (∀ w ∈ GT, w.before args s = true) ∧ meth.locks = false ∧ c.exceptionTable.toList = tableOf M.2.2.2.2 ∧ l.stackTraces = false ∧ (M.1.name = "<init>" → meth.name = "<init>") ∧
  va_K G.1 vwCl (tysOf G.2.1) s ∧ NWs s ∧ (∀ q ∈ SR, vk_R q.1 q.2.1 q.2.2.1 (G.2.2.1 q.2.2.2) s) ∧ AOs s ∧ CFc G A s s.heap ∧ (∀ q, s.heap.size ≤ q → A q)
/-- the abstract heap is the real one's picture -/
def HM (G : GD) (A : Nat → Prop) (H0 : Heap) (h : AH) (n : Nat) (H : Heap) (locs : List Loc) (ad : Nat → Nat) : Prop :=
  va_P G.1 vwCl (wsH G ad h n) H ∧ va_D A (wsH G ad h n) ∧ va_S A H0 H locs ∧ nC ≤ n ∧ (∀ i, nC ≤ i → i < n → clE n (h i)) ∧ ∀ i, i < nC → h i = G.2.2.2 i ∧ ad i = G.2.2.1 i ∧ clE nC (h i)
/-- locals and stack -/
def LM (ad : Nat → Nat) (nL n : Nat) (lv : List (Nat × Value)) (st : List Value) (ls : Array Slot) : Prop :=
  lv_has ls nL (lv.map (fun q => (q.1, em ad q.2))) ∧ (∀ q ∈ lv, clV n q.2) ∧ ∀ v ∈ st, clV n v
def Ext (ad0 ad : Nat → Nat) (n0 n : Nat) : Prop := n0 ≤ n ∧ ∀ i, i < n0 → ad i = ad0 i
theorem Ext.rf {ad : Nat → Nat} {n : Nat} : Ext ad ad n n := ⟨Nat.le_refl _, fun _ _ => rfl⟩
theorem Ext.tr {a b c : Nat → Nat} {i j k : Nat} (h : Ext a b i j) (g : Ext b c j k) : Ext a c i k := ⟨Nat.le_trans h.1 g.1, fun x hx => (g.2 x (Nat.lt_of_lt_of_le hx h.1)).trans (h.2 x hx)⟩
def RetAt (M : MI) (pc : Nat) (v : Option Value) : Prop := match v with
  | none => decode M.2.1 pc = .ok (.return_, 1) ∧ M.2.2.2.1 = none
  | some (.int x) => decode M.2.1 pc = .ok (.ireturn, 1) ∧ ∃ ty, M.2.2.2.1 = some ty ∧ narrow ty (.int x) = .int x
  | some (.long _) => decode M.2.1 pc = .ok (.lreturn, 1) ∧ M.2.2.2.1 = some .long
  | some (.ref _) => decode M.2.1 pc = .ok (.areturn, 1) ∧ ∃ rt, M.2.2.2.1 = some rt ∧ ((∃ nm, rt = FieldType.object nm) ∨ ∃ t, rt = FieldType.array t)
  | _ => False
/-- thrown: E, the heap grown from H at most -/
def vx_XH (E : String) (H : Heap) : String → State → State → Prop := fun E' _ t => E' = E ∧ H.size ≤ t.heap.size ∧ ∀ q : Nat, q < H.size → t.heap[q]? = H[q]?
/-- what the ends of the frame give -/
def EN (G : GD) (M : MI) (p : Program) (l : Launch) (e : Env) (R : Room) (s : State) (m : MethodId) (args : Array Value) (below : List Frame) (meth : Method) (c : Code) (A : Nat → Prop) (ad0 : Nat → Nat) (n0 : Nat) (Q : State → Prop) (Post : ARes → AH → Nat → Prop) : Prop :=
  (∀ (H : Heap) (locs : List Loc) (cells slots : Nat) (ls : Array Slot) (ad : Nat → Nat) (h : AH) (n : Nat) (v : Option Value) (pc : Nat), HM G A s.heap h n H locs ad → Ext ad0 ad n0 n → (∀ v', v = some v' → clV n v') → Post (.inl v) h n → cells ≤ R.cells → slots ≤ R.slots → RetAt M pc v →
    W p l e R s m args below meth c H locs cells slots Q (F0 m pc ls (v.map (em ad)).toList)) ∧
  (∀ (H : Heap) (locs : List Loc) (ad : Nat → Nat) (h : AH) (n : Nat) (E : String), HM G A s.heap h n H locs ad → Ext ad0 ad n0 n → Post (.inr E) h n → ∀ t, vx_MQ below (fun _ _ _ _ => False) (vx_XH E H) args s R.cells R.slots A t → Q t)
/-- a place in method M: whatever the frame, it comes to an end as Post says; d: calls deep; bc, bs: cells and slots that may still be made -/
def SW (SR : SRT) (M : MI) (d bc bs : Nat) (pc : Nat) (lv : List (Nat × Value)) (st : List Value) (h : AH) (n : Nat) (Post : ARes → AH → Nat → Prop) : Prop :=
  ∀ (G : GD) (p : Program) (l : Launch) (e : Env) (R : Room) (s : State) (m : MethodId) (args : Array Value) (below : List Frame) (meth : Method) (c : Code) (A : Nat → Prop) (ad0 : Nat → Nat) (n0 : Nat) (Q : State → Prop),
    CX SR G M p l s m args meth c A → RM d R → EN G M p l e R s m args below meth c A ad0 n0 Q Post →
    ∀ (H : Heap) (locs : List Loc) (cells slots : Nat) (ls : Array Slot) (ad : Nat → Nat), HM G A s.heap h n H locs ad → LM ad M.2.2.1 n lv st ls → Ext ad0 ad n0 n → cells + bc ≤ R.cells → slots + bs ≤ R.slots →
    W p l e R s m args below meth c H locs cells slots Q (F0 m pc ls (st.map (em ad)))
/-- what a callee is given, and gives -/
def PicU (SR : SRT) (G : GD) (ad : Nat → Nat) (h : AH) (n sz : Nat) (U : State) : Prop :=
  U.heap.size = sz ∧ va_P G.1 vwCl (wsH G ad h n) U.heap ∧ va_D (fun _ => True) (wsH G ad h n) ∧ nC ≤ n ∧ (∀ i, nC ≤ i → i < n → clE n (h i)) ∧ (∀ i, i < nC → h i = G.2.2.2 i ∧ ad i = G.2.2.1 i ∧ clE nC (h i)) ∧
  va_K G.1 vwCl (tysOf G.2.1) U ∧ NWs U ∧ (∀ q ∈ SR, vk_R q.1 q.2.1 q.2.2.1 (G.2.2.1 q.2.2.2) U) ∧ AOs U ∧ CFc G (va_A (wsH G ad h n) sz) U U.heap
def PicT (G : GD) (A : Nat → Prop) (ad : Nat → Nat) (h : AH) (n : Nat) (t : State) : Prop :=
  va_P G.1 vwCl (wsH G ad h n) t.heap ∧ va_D A (wsH G ad h n) ∧ nC ≤ n ∧ (∀ i, nC ≤ i → i < n → clE n (h i)) ∧ ∀ i, i < nC → h i = G.2.2.2 i ∧ ad i = G.2.2.1 i ∧ clE nC (h i)
def SQc (G : GD) (A : Nat → Prop) (ad : Nat → Nat) (n : Nat) (Post : ARes → AH → Nat → Prop) : Array Value → State → Outcome → State → Prop := fun _ st o t =>
  (∃ (v : Option Value) (ad' : Nat → Nat) (h' : AH) (n' : Nat), o = .returned (v.map (em ad')) ∧ Post (.inl v) h' n' ∧ Ext ad ad' n n' ∧ (∀ v', v = some v' → clV n' v') ∧ PicT G A ad' h' n' t) ∧ va_F A st t
def SXc (G : GD) (A : Nat → Prop) (ad : Nat → Nat) (n : Nat) (Post : ARes → AH → Nat → Prop) : String → State → State → Prop := fun E st t =>
  (∃ (ad' : Nat → Nat) (h' : AH) (n' : Nat), Post (.inr E) h' n' ∧ Ext ad ad' n n' ∧ PicT G A ad' h' n' t) ∧ va_F A st t
/-- method M, called with as in the heap h of n things, ends as Post says -/
def SM (SR : SRT) (M : MI) (d bc bs : Nat) (as : List Value) (h : AH) (n : Nat) (Post : ARes → AH → Nat → Prop) : Prop :=
  ∀ (l : Launch), l.stackTraces = false → ∀ (G : GD) (ad : Nat → Nat) (sz : Nat), (∀ v ∈ as, clV n v) →
    vx_Met l M.1 (wsM M) (rmOf d bc bs) (va_Pc (as.map (em ad)) (PicU SR G ad h n sz)) (SQc G (va_A (wsH G ad h n) sz) ad n Post) (SXc G (va_A (wsH G ad h n) sz) ad n Post) bc bs (va_A (wsH G ad h n) sz)
theorem HM.lt {G : GD} {A : Nat → Prop} {H0 : Heap} {h : AH} {n : Nat} {H : Heap} {locs : List Loc} {ad : Nat → Nat} (hm : HM G A H0 h n H locs ad) : nC ≤ n := hm.2.2.2.1
theorem lv_get {ad : Nat → Nat} {nL n : Nat} {lv : List (Nat × Value)} {st : List Value} {ls : Array Slot} (hl : LM ad nL n lv st ls) {i : Nat} {v : Value} (h : (i, v) ∈ lv) : ls[i]? = some (.val (em ad v)) := hl.1.2.2 (i, em ad v) (List.mem_map.mpr ⟨(i, v), h, rfl⟩)
def lvG (lv : List (Nat × Value)) (i : Nat) : Option Value := match lv with
  | [] => none
  | q :: r => bif q.1 == i then some q.2 else lvG r i
theorem lvG_mem {lv : List (Nat × Value)} {i : Nat} {v : Value} (h : lvG lv i = some v) : (i, v) ∈ lv := by
  induction lv with
  | nil => cases h
  | cons q r ih =>
    unfold lvG at h
    cases hq : q.1 == i with
    | true =>
      rw [hq] at h
      have h1 : q.1 = i := by simpa using hq
      have h2 : q.2 = v := Option.some.inj h
      rw [← h1, ← h2]
      exact List.mem_cons_self
    | false =>
      rw [hq] at h
      exact List.mem_cons_of_mem _ (ih h)
theorem LM.stk {ad : Nat → Nat} {nL n : Nat} {lv : List (Nat × Value)} {st st' : List Value} {ls : Array Slot} (h : LM ad nL n lv st ls) (g : ∀ v ∈ st', clV n v) : LM ad nL n lv st' ls := ⟨h.1, h.2.1, g⟩
theorem clV_int {n : Nat} {x : Int32} : clV n (.int x) := fun _ h => by cases h
theorem clV_long {n : Nat} {x : Int64} : clV n (.long x) := fun _ h => by cases h
theorem clV_null {n : Nat} : clV n .null := fun _ h => by cases h
theorem cl1 {n : Nat} {v : Value} {st : List Value} (h : ∀ w ∈ v :: st, clV n w) : ∀ w ∈ st, clV n w := fun w hw => h w (List.mem_cons_of_mem _ hw)
theorem cl2 {n : Nat} {v u : Value} {st : List Value} (h : ∀ w ∈ u :: v :: st, clV n w) : ∀ w ∈ st, clV n w := cl1 (cl1 h)
theorem clc {n : Nat} {v : Value} {st : List Value} (h : ∀ w ∈ st, clV n w) (g : clV n v) : ∀ w ∈ v :: st, clV n w := fun w hw => (List.mem_cons.mp hw).elim (fun e => e ▸ g) (h w)
theorem em_cat {ad : Nat → Nat} {v : Value} : (em ad v).category = v.category := by cases v <;> rfl
/-- the locals after a store of one slot -/
def lvS (i : Nat) (v : Value) (lv : List (Nat × Value)) : List (Nat × Value) := (i, v) :: lv.filter (fun q => !(q.1 == i) && !(q.1 + 1 == i && q.2.category == 2))
def lvS2 (i : Nat) (v : Value) (lv : List (Nat × Value)) : List (Nat × Value) := (i, v) :: lv.filter (fun q => !(q.1 == i) && (!(q.1 == i + 1) && !(q.1 + 1 == i && q.2.category == 2)))
theorem lvS_map {ad : Nat → Nat} {i : Nat} {v : Value} {lv : List (Nat × Value)} : (i, em ad v) :: (lv.map (fun q => (q.1, em ad q.2))).filter (fun q => !(q.1 == i) && !(q.1 + 1 == i && q.2.category == 2)) = (lvS i v lv).map (fun q => (q.1, em ad q.2)) := by
  unfold lvS
  rw [List.map_cons, List.filter_map]
  congr 2
  apply List.filter_congr
  intro q _
  show (!(q.1 == i) && !(q.1 + 1 == i && (em ad q.2).category == 2)) = _
  rw [em_cat]
theorem lvS2_map {ad : Nat → Nat} {i : Nat} {v : Value} {lv : List (Nat × Value)} : (i, em ad v) :: (lv.map (fun q => (q.1, em ad q.2))).filter (fun q => !(q.1 == i) && (!(q.1 == i + 1) && !(q.1 + 1 == i && q.2.category == 2))) = (lvS2 i v lv).map (fun q => (q.1, em ad q.2)) := by
  unfold lvS2
  rw [List.map_cons, List.filter_map]
  congr 2
  apply List.filter_congr
  intro q _
  show (!(q.1 == i) && (!(q.1 == i + 1) && !(q.1 + 1 == i && (em ad q.2).category == 2))) = _
  rw [em_cat]
theorem lvS_cl {n i : Nat} {v : Value} {lv : List (Nat × Value)} (h : ∀ q ∈ lv, clV n q.2) (g : clV n v) : ∀ q ∈ lvS i v lv, clV n q.2 := fun q hq => (List.mem_cons.mp hq).elim (fun e => by rw [e]; exact g) (fun h1 => h q (List.mem_filter.mp h1).1)
theorem lvS2_cl {n i : Nat} {v : Value} {lv : List (Nat × Value)} (h : ∀ q ∈ lv, clV n q.2) (g : clV n v) : ∀ q ∈ lvS2 i v lv, clV n q.2 := fun q hq => (List.mem_cons.mp hq).elim (fun e => by rw [e]; exact g) (fun h1 => h q (List.mem_filter.mp h1).1)
