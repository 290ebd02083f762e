/-! exceptions: made and thrown, going on, caught -/
/-- words of a throw: each a good one of GT, or one of NW that the tables alone decide, or one that no throw asks for -/
def ALW : List Cond → Prop
  | [] => True
  | a :: l => ((goodWord a = true ∧ a ∈ GT) ∨ (a.onTables = true ∧ a ∈ NW) ∨ vx_no a = false) ∧ ALW l
theorem ALW.use : ∀ {l : List Cond}, ALW l → ∀ w ∈ l, vx_no w = true → (goodWord w = true ∧ w ∈ GT) ∨ (w.onTables = true ∧ w ∈ NW)
  | [], _, w, hw, _ => by cases hw
  | a :: l, h, w, hw, hn => by
    rcases List.mem_cons.mp hw with rfl | hw
    · rcases h.1 with g | g | g
      · exact Or.inl g
      · exact Or.inr g
      · rw [g] at hn; cases hn
    · exact ALW.use h.2 w hw hn
/-- the words of a throw of E by 'throw new E("..")' in the class own -/
def thOK (own : String) (ic : Nat) (E : String) (names : List String) : Prop := ALW (Bundle.ownAtoms own ic E names)
theorem thOK_spec {own : String} {ic : Nat} {E : String} {names : List String} (h : thOK own ic E names) {args : Array Value} {s : State} (h1 : ∀ w ∈ GT, w.before args s = true) (h2 : NWs s) :
    (∀ w ∈ vx_atS own ic E names, w.before args s = true) ∧ ∀ w ∈ vx_atS own ic E names, vx_ot w = true := by
  refine ⟨fun w hw => ?_, fun w hw => ?_⟩
  · obtain ⟨a, b⟩ := List.mem_filter.mp hw
    rcases ALW.use h w a b with ⟨g1, g2⟩ | ⟨g1, g2⟩
    · exact h1 w g2
    · exact va_Nw.use g1 (h2 w g2)
  · obtain ⟨a, b⟩ := List.mem_filter.mp hw
    rcases ALW.use h w a b with ⟨g1, g2⟩ | ⟨g1, g2⟩
    · unfold vx_ot; rw [g1, Bool.or_true]
    · unfold vx_ot; rw [g1, Bool.true_or]
/-- E is pending at pc -/
def SWX (SR : SRT) (M : MI) (d bc bs : Nat) (pc : Nat) (lv : List (Nat × Value)) (E : String) (h : AH) (n : Nat) (Post : ARes → AH → Nat → Prop) : Prop :=
  ∀ (G : GD) (p : Program) (l : Launch) (e : Env) (R : Room) (s : State) (m : MethodId) (args : Array Value) (below : List Frame) (meth : Method) (c : Code) (A : Nat → Prop) (ad0 : Nat → Nat) (n0 : Nat) (Q : State → Prop),
    CX SR G M p l s m args meth c A → RM d R → EN G M p l e R s m args below meth c A ad0 n0 Q Post →
    ∀ (H : Heap) (locs : List Loc) (cells slots : Nat) (ls : Array Slot) (ad : Nat → Nat), HM G A s.heap h n H locs ad → LM ad M.2.2.1 n lv [] ls → Ext ad0 ad n0 n → cells + bc ≤ R.cells → slots + bs ≤ R.slots →
    ∀ (q9 : Addr) (ce : Cell) (rest : List Value), H[q9]? = some ce → ce.vm = .none → s.vm.findClass E = some ce.cls → vx_W p l e R s m args below meth c H locs cells slots Q (F0 m pc ls rest) q9
section
variable {SR : SRT} {M : MI} {d bc bs pc pc' tgt n : Nat} {lv : List (Nat × Value)} {st : List Value} {h : AH} {Post : ARes → AH → Nat → Prop}
theorem sw_throw {E tx : String} {ik is ic i : Nat} {names : List String} (hM : M.2.2.2.2 = []) (d0 : decode M.2.1 pc = .ok (.new ik, 3)) (d3 : decode M.2.1 (pc + 3) = .ok (.dup, 1)) (d4 : decode M.2.1 (pc + 4) = .ok (.ldc is, 2)) (d6 : decode M.2.1 (pc + 6) = .ok (.invokespecial ic, 3)) (d9 : decode M.2.1 (pc + 9) = .ok (.athrow, 1))
    (hE : Bundle.fit E = true) (hn : ∀ z ∈ names, Bundle.fit z = true) (hlen : names.length ≤ 3) (hk : Cond.classLink M.1.cls ik E ∈ GT) (hini : Cond.initialized E ∈ GT) (hs : (M.1.cls, is, tx, i) ∈ SR) (hth : thOK M.1.cls ic E names) (h1 : 1 ≤ bc) (h2 : 6 ≤ bs) (hP : Post (.inr E) h n) : SW SR M d bc bs pc lv [] h n Post := by
  intro G p l e R s m args below meth c A ad0 n0 Q hc hr he H locs cells slots ls ad hm hl hx hbc hbs
  obtain ⟨hx1, hb1, hr1, hml1, hown1, hts1, hlk1, htb1, hlt1, hin1, hK1, hN1, hSR1, hAO1, hC1, hA1⟩ := id hc
  obtain ⟨t1, t2⟩ := thOK_spec hth hts1 hN1
  have hz : vk_R M.1.cls is tx (G.2.2.1 i) s := hSR1 (M.1.cls, is, tx, i) hs
  have hgood : ∀ w ∈ Cond.classLink M.1.cls ik E :: Cond.initialized E :: vx_atS M.1.cls ic E names, vx_ot w = true := by
    intro w hw
    rcases List.mem_cons.mp hw with rfl | hw
    · rfl
    rcases List.mem_cons.mp hw with rfl | hw
    · rfl
    exact t2 w hw
  have hfr := hr.1
  have hlo := hr.2
  refine W.mono (Q := vx_MQ below (fun _ _ _ _ => False) (vx_XH E H) args s R.cells R.slots A) (fun t ht => he.2 H locs ad h n E hm hx hP t ht) ?_
  exact vx_throwS (rest := []) (A := A) hx1 hb1 hlt1 hown1 hE hn (hts1 _ hk) (hts1 _ hini) hz t1 hgood hC1.2.2.2.1 hC1.2.2.2.2.1 hm.2.2.1 (by rw [hml1]; exact hl.1.1) d0 d3 d4 d6 d9
    (fun x hx => by rw [htb1, hM] at hx; cases hx) (by omega) (by show 0 + _ ≤ _; omega) (by omega) (by omega) hlk1 (fun t hvm a b => ⟨rfl, a, b⟩) hm.2.2.1.2.2 (by omega) (by omega)
theorem sw_throwW {E tx : String} {ik is ic i : Nat} {names : List String} (hM : M.2.2.2.2 = []) (d0 : decode M.2.1 pc = .ok (.new ik, 3)) (d3 : decode M.2.1 (pc + 3) = .ok (.dup, 1)) (d4 : decode M.2.1 (pc + 4) = .ok (.ldc_w is, 3)) (d6 : decode M.2.1 (pc + 7) = .ok (.invokespecial ic, 3)) (d9 : decode M.2.1 (pc + 10) = .ok (.athrow, 1))
    (hE : Bundle.fit E = true) (hn : ∀ z ∈ names, Bundle.fit z = true) (hlen : names.length ≤ 3) (hk : Cond.classLink M.1.cls ik E ∈ GT) (hini : Cond.initialized E ∈ GT) (hs : (M.1.cls, is, tx, i) ∈ SR) (hth : thOK M.1.cls ic E names) (h1 : 1 ≤ bc) (h2 : 6 ≤ bs) (hP : Post (.inr E) h n) : SW SR M d bc bs pc lv [] h n Post := by
  intro G p l e R s m args below meth c A ad0 n0 Q hc hr he H locs cells slots ls ad hm hl hx hbc hbs
  obtain ⟨hx1, hb1, hr1, hml1, hown1, hts1, hlk1, htb1, hlt1, hin1, hK1, hN1, hSR1, hAO1, hC1, hA1⟩ := id hc
  obtain ⟨t1, t2⟩ := thOK_spec hth hts1 hN1
  have hz : vk_R M.1.cls is tx (G.2.2.1 i) s := hSR1 (M.1.cls, is, tx, i) hs
  have hgood : ∀ w ∈ Cond.classLink M.1.cls ik E :: Cond.initialized E :: vx_atS M.1.cls ic E names, vx_ot w = true := by
    intro w hw
    rcases List.mem_cons.mp hw with rfl | hw
    · rfl
    rcases List.mem_cons.mp hw with rfl | hw
    · rfl
    exact t2 w hw
  have hfr := hr.1
  have hlo := hr.2
  refine W.mono (Q := vx_MQ below (fun _ _ _ _ => False) (vx_XH E H) args s R.cells R.slots A) (fun t ht => he.2 H locs ad h n E hm hx hP t ht) ?_
  exact vx_throwSW (rest := []) (A := A) hx1 hb1 hlt1 hown1 hE hn (hts1 _ hk) (hts1 _ hini) hz t1 hgood hC1.2.2.2.1 hC1.2.2.2.2.1 hm.2.2.1 (by rw [hml1]; exact hl.1.1) d0 d3 d4 d6 d9
    (fun x hx => by rw [htb1, hM] at hx; cases hx) (by omega) (by show 0 + _ ≤ _; omega) (by omega) (by omega) hlk1 (fun t hvm a b => ⟨rfl, a, b⟩) hm.2.2.1.2.2 (by omega) (by omega)
theorem swx_out {E : String} (hM : M.2.2.2.2 = []) (hP : Post (.inr E) h n) : SWX SR M d bc bs pc lv E h n Post := by
  intro G p l e R s m args below meth c A ad0 n0 Q hc hr he H locs cells slots ls ad hm hl hx hbc hbs q9 ce rest hce hcv hcl
  obtain ⟨hx1, hb1, hr1, hml1, hown1, hts1, hlk1, htb1, hlt1, hin1, hK1, hN1, hSR1, hAO1, hC1, hA1⟩ := id hc
  refine vx_W.mono (Q := vx_MQ below (fun _ _ _ _ => False) (vx_XH E H) args s R.cells R.slots A) (fun t ht => he.2 H locs ad h n E hm hx hP t ht) ?_
  exact vx_out (fun x hx => by rw [htb1, hM] at hx; cases hx) hlk1 hce hcv hcl (fun t ht _ => ⟨rfl, by rw [ht]; exact Nat.le_refl _, fun q _ => by rw [ht]⟩) hm.2.2.1.2.2 (by omega) (by omega)
/-- caught by the table's row x, where the handler begins by putting it into a local, which nobody reads -/
theorem swx_catch {E : String} {pre suf : List (Nat × Nat × Nat × Nat)} {x : Nat × Nat × Nat × Nat} {k0 : Fin 4} {lv' : List (Nat × Value)} (hsplit : M.2.2.2.2 = pre ++ x :: suf) (hpass : ∀ z ∈ pre, z.2.2.2 ≠ 0 ∧ ∃ nm, Cond.classLink M.1.cls z.2.2.2 nm ∈ GT ∧ (E, nm) ∈ XP) (hx0 : x.1 ≤ pc ∧ pc < x.2.1) (h0 : x.2.2.2 ≠ 0) (hlink : Cond.classLink M.1.cls x.2.2.2 E ∈ GT) (hcast : Cond.castable E E ∈ NW)
    (hdg : decode M.2.1 x.2.2.1 = .ok (.astore_n k0, 1)) (hk : (k0 : Nat) < M.2.2.1) (hl9 : lv.filter (fun q => !(q.1 == (k0 : Nat)) && !(q.1 + 1 == (k0 : Nat) && q.2.category == 2)) = lv') (k : SW SR M d bc bs (x.2.2.1 + 1) lv' [] h n Post) : SWX SR M d bc bs pc lv E h n Post := by
  subst hl9
  intro G p l e R s m args below meth c A ad0 n0 Q hc hr he H locs cells slots ls ad hm hl hx hbc hbs q9 ce rest hce hcv hcl
  obtain ⟨hx1, hb1, hr1, hml1, hown1, hts1, hlk1, htb1, hlt1, hin1, hK1, hN1, hSR1, hAO1, hC1, hA1⟩ := id hc
  have e1 : c.exceptionTable.toList = tableOf pre ++ ⟨x.1, x.2.1, x.2.2.1, x.2.2.2⟩ :: tableOf suf := by
    rw [htb1, hsplit]
    simp [tableOf]
  refine vx_catch hown1 (tableOf pre) ⟨x.1, x.2.1, x.2.2.1, x.2.2.2⟩ (tableOf suf) e1 (fun z hz => ?_) (by simp [covers]; omega) h0 (hts1 _ hlink) (va_Nw.use rfl (hN1 _ hcast)) hce hcv hcl ?_
  · obtain ⟨z', hz', rfl⟩ := List.mem_map.mp hz
    obtain ⟨g1, nm, g2, g3⟩ := hpass z' hz'
    exact Or.inr ⟨g1, nm, hts1 _ g2, hAO1.2.2.2 _ g3⟩
  · refine lv_astore_n hx1 hb1 hdg rfl hl.1 hk rfl (fun ls' hl' => ?_)
    refine k G p l e R s m args below meth c A ad0 n0 Q hc hr he H locs cells slots ls' ad hm ⟨⟨hl'.1, hl'.2.1, fun q hq => ?_⟩, fun q hq => hl.2.1 q (List.mem_filter.mp hq).1, fun v hv => by cases hv⟩ hx hbc hbs
    apply hl'.2.2
    refine List.mem_cons_of_mem _ ?_
    obtain ⟨z, hz, rfl⟩ := List.mem_map.mp hq
    obtain ⟨z1, z2⟩ := List.mem_filter.mp hz
    refine List.mem_filter.mpr ⟨List.mem_map.mpr ⟨z, z1, rfl⟩, ?_⟩
    show (!(z.1 == (k0 : Nat)) && !(z.1 + 1 == (k0 : Nat) && (em ad z.2).category == 2)) = true
    rw [em_cat]
    exact z2
end
