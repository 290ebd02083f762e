/-! the model: new rows, walks -/
/-- a new array of c, with g below -/
def NA (h : AH) (n c : Nat) (g : Nat → Int32) : ARes → AH → Nat → Prop := fun r' h' n' => r' = .inl (some (.ref n)) ∧ n' = n + 1 ∧ (∃ f, h' n = .inl (0, c, .inl f) ∧ ∀ j, j < c → f j = g j) ∧ ∀ i, i ≠ n → h' i = h i
theorem na_k {A : Nat → AH → Option Value → Prop} {h : AH} {n c n0 : Nat} {g : Nat → Int32} (k : ∀ h' f, h' n = .inl (0, c, .inl f) → (∀ j, j < c → f j = g j) → (∀ i, i ≠ n → h' i = h i) → A (n + 1) h' (some (.ref n))) : ∀ (v : Option Value) (h' : AH) (n' : Nat), n0 ≤ n' → NA h n c g (.inl v) h' n' → A n' h' v := by
  rintro v h' n' - ⟨e, rfl, ⟨f, g1, g2⟩, g3⟩
  cases e
  exact k h' f g1 g2 g3
theorem na_x {A : Prop} {h : AH} {n c : Nat} {g : Nat → Int32} {E : String} {h' : AH} {n' : Nat} (z : NA h n c g (.inr E) h' n') : A := by cases z.1
/-- a new array, and the model is otherwise -/
def NL (h : AH) (n c : Nat) (g : Nat → Int32) (σ : CS) (th : Int32) : ARes → AH → Nat → Prop := fun r' h' n' => r' = .inl (some (.ref n)) ∧ n' = n + 1 ∧ (∃ f, h' n = .inl (0, c, .inl f) ∧ ∀ j, j < c → f j = g j) ∧ RMo h' σ th ∧ FrM h h' n
theorem nl_k {A : Nat → AH → Option Value → Prop} {h : AH} {n c n0 : Nat} {g : Nat → Int32} {σ : CS} {th : Int32} (k : ∀ h' ρ τ f, MM h' ρ τ σ th → AG ρ τ σ → h' n = .inl (0, c, .inl f) → (∀ j, j < c → f j = g j) → FrM h h' n → A (n + 1) h' (some (.ref n))) : ∀ (v : Option Value) (h' : AH) (n' : Nat), n0 ≤ n' → NL h n c g σ th (.inl v) h' n' → A n' h' v := by
  rintro v h' n' - ⟨e, rfl, ⟨f, g1, g2⟩, ⟨ρ, τ, q1, q2⟩, g3⟩
  cases e
  exact k h' ρ τ f q1 q2 g1 g2 g3
theorem nl_x {A : Prop} {h : AH} {n c : Nat} {g : Nat → Int32} {σ : CS} {th : Int32} {E : String} {h' : AH} {n' : Nat} (z : NL h n c g σ th (.inr E) h' n') : A := by cases z.1
/-- an answer, nothing old is otherwise -/
def TP (h : AH) (n : Nat) (r : Int32) : ARes → AH → Nat → Prop := fun r' h' n' => r' = .inl (some (.int r)) ∧ n ≤ n' ∧ ∀ i, i < n → h' i = h i
theorem tp_k {A : Nat → AH → Option Value → Prop} {h : AH} {n n0 : Nat} {r : Int32} (k : ∀ h' n', n ≤ n' → (∀ i, i < n → h' i = h i) → A n' h' (some (.int r))) : ∀ (v : Option Value) (h' : AH) (n' : Nat), n0 ≤ n' → TP h n r (.inl v) h' n' → A n' h' v := by
  rintro v h' n' - ⟨e, g1, g2⟩
  cases e
  exact k h' n' g1 g2
theorem tp_x {A : Prop} {h : AH} {n : Nat} {r : Int32} {E : String} {h' : AH} {n' : Nat} (z : TP h n r (.inr E) h' n') : A := by cases z.1
theorem blN_z {f g : Nat → Int32} {j : Nat} : up (blN f g 0 j) j (g j) = blN f g 0 (j + 1) := by
  have := blN_s (f := f) (f2 := g) (k := 0) (i := j)
  rw [Nat.zero_add] at this
  exact this
theorem blN_in {f g : Nat → Int32} {k i j : Nat} (h : j < i) : blN f g k i j = g (k + j) := if_pos h
theorem wSt_t {σ : CS} {k : Nat} (h : ¬ (σ.2.2.2.2.1 k).2.2.2.2.2.1 = σ.2.2.1 (wO σ k)) : wSt σ k = true := decide_eq_true (p := σ.2.2.1 (wO σ k) ≠ (σ.2.2.2.2.1 k).2.2.2.2.2.1) (fun q => h q.symm)
theorem wSt_f {σ : CS} {k : Nat} (h : (σ.2.2.2.2.1 k).2.2.2.2.2.1 = σ.2.2.1 (wO σ k)) : wSt σ k = false := decide_eq_false (p := σ.2.2.1 (wO σ k) ≠ (σ.2.2.2.2.1 k).2.2.2.2.2.1) (fun q => q h.symm)
theorem nI_ne1 {j : Nat} (h : j < 2 ^ 31) : ¬ nI j = -1 := fun e => nI_pos h (e ▸ (by decide +kernel))
theorem i_sub1 {a b : Int32} : a + 1 - b = a - b + 1 := by rw [Int32.sub_eq_add_neg, Int32.add_assoc, Int32.add_comm 1, ← Int32.add_assoc, ← Int32.sub_eq_add_neg]
/-- the model's WALK gives one -/
theorem MM.giveU {h h' : AH} {ρ : Nat → Nat → Int32} {τ : Nat → Int32} {σ : CS} {th : Int32} {k A : Nat} (hM : MM h ρ τ σ th) (hk : k < 6) (hm : (σ.2.2.2.2.1 k).1 = true) (hA : wAh σ k = nI A) (e2 : h' 152 = .inl (0, 6, .inl (up (fun j => (σ.2.2.2.2.1 j).2.2.2.1) k ((σ.2.2.2.2.1 k).2.2.2.1 + 1)))) (e4 : h' 154 = .inl (0, 6, .inl (up (wAh σ) k (nI (A + 1)))))
    (e5 : h' 155 = .inl (1, 6, .inl (up (fun j => bI (σ.2.2.2.2.1 j).2.2.2.2.2.2.2) k (vp_nar .boolean 1)))) (e6 : h' 157 = .inl (0, 6, .inl (up τ k (σ.2.2.2.1 (wO σ k))))) (hF : ∀ i, i ≠ 152 → i ≠ 154 → i ≠ 155 → i ≠ 157 → h' i = h i) : MM h' ρ (up τ k (σ.2.2.2.1 (wO σ k))) (gvU σ k 1) th := by
  rw [gvU_1]
  refine hM.wkU hk (q := ((σ.2.2.2.2.1 k).1, wO σ k, (σ.2.2.2.2.1 k).2.2.1, (σ.2.2.2.2.1 k).2.2.2.1 + 1, (σ.2.2.2.2.1 k).2.2.2.2.1, (σ.2.2.2.2.1 k).2.2.2.2.2.1, σ.2.2.2.1 (wO σ k), true)) ?_ ?_ e2 ?_ ?_ e5 e6 (fun i hi => hF i (by omega) (by omega) (by omega) (by omega))
  · rw [hF 150 (by decide +kernel) (by decide +kernel) (by decide +kernel) (by decide +kernel), hM.sh]
    show _ = Sum.inl (0, 6, Sum.inl (up (shF σ) k (if (σ.2.2.2.2.1 k).1 then nI (wO σ k) else -1)))
    rw [if_pos hm, ← shF_m hk hm, up_id]
  · rw [hF 151 (by decide +kernel) (by decide +kernel) (by decide +kernel) (by decide +kernel), hM.hw]
    show _ = Sum.inl (0, 6, Sum.inl (up (fun j => (σ.2.2.2.2.1 j).2.2.1) k ((fun j => (σ.2.2.2.2.1 j).2.2.1) k)))
    rw [up_id]
  · rw [hF 153 (by decide +kernel) (by decide +kernel) (by decide +kernel) (by decide +kernel), hM.st]
    show _ = Sum.inl (0, 6, Sum.inl (up (fun j => (σ.2.2.2.2.1 j).2.2.2.2.2.1) k ((fun j => (σ.2.2.2.2.1 j).2.2.2.2.2.1) k)))
    rw [up_id]
  · rw [e4]
    show _ = Sum.inl (0, 6, Sum.inl (up (wAh σ) k ((σ.2.2.2.2.1 k).2.2.2.1 + 1 - (σ.2.2.2.2.1 k).2.2.2.2.1)))
    rw [i_sub1]
    show _ = Sum.inl (0, 6, Sum.inl (up (wAh σ) k (wAh σ k + 1)))
    rw [hA, nI_1]
theorem AG.giveU {ρ : Nat → Nat → Int32} {τ : Nat → Int32} {σ : CS} {k : Nat} (hA : AG ρ τ σ) : AG ρ (up τ k (σ.2.2.2.1 (wO σ k))) (gvU σ k 1) := by
  rw [gvU_1]
  exact hA.wkU (fun _ => rfl)
theorem ctN_a {g : Nat → Int32} {m : Nat} : ∀ {j : Nat} {v : Int32}, ctN g j (m + 1) v = ctN g (j + 1) m (v + g j) := rfl
theorem ql_picture {h : AH} {d bc bs n : Nat} {ρ : Nat → Nat → Int32} {τ : Nat → Int32} {σ : CS} {th : Int32} (hM : MM h ρ τ σ th) (hA : AG ρ τ σ) {k : Nat} (hk : k < 11) (hc : σ.2.1 k ≤ 12) (hn : 158 ≤ n) (m : Nat) : ∀ (j : Nat) (g : AH) (f : Nat → Int32), j + m = σ.2.1 k → g n = .inl (0, σ.2.1 k, .inl f) → (∀ i, i < j → f i = σ.1 k i) → (∀ i, i ≠ n → g i = h i) → SW SR0 MX5_picture d bc bs 14 [(4, .int (nI j)), (3, .ref n), (0, .ref 135), (1, .int (nI k)), (2, .int 0)] [] g (n + 1) (NA h n (σ.2.1 k) (σ.1 k)) := by
  obtain ⟨G0, hG0, eG0⟩ := hM.out
  induction m with
  | zero =>
    intro j g f hj hr hf hF
    have hjc : j = σ.2.1 k := by omega
    subst hjc
    refine sw_iload (pc' := 16) rfl dX5_picture_14 rfl ?_
    refine sw_aload_n (pc' := 17) rfl dX5_picture_16 rfl ?_
    refine sw_alen (pc' := 18) rfl dX5_picture_17 hr (by decide +kernel) (Or.inl (by show 100 ≤ _; omega)) ?_
    refine sw_icmp_ge (pc' := 21) (tgt := 42) rfl dX5_picture_18 (by decide +kernel) (fun c18 => ?_) (fun c18 => ?_)
    · refine sw_aload_n (pc' := 43) rfl dX5_picture_42 rfl ?_
      refine sw_ret (v := some _) ⟨dX5_picture_43, _, rfl, Or.inr ⟨_, rfl⟩⟩ ?_
      exact ⟨rfl, rfl, ⟨f, hr, hf⟩, hF⟩
    · exact absurd (Int32.le_refl _) c18
  | succ m ih =>
    intro j g f hj hr hf hF
    refine sw_iload (pc' := 16) rfl dX5_picture_14 rfl ?_
    refine sw_aload_n (pc' := 17) rfl dX5_picture_16 rfl ?_
    refine sw_alen (pc' := 18) rfl dX5_picture_17 hr (by decide +kernel) (Or.inl (by show 100 ≤ _; omega)) ?_
    refine sw_icmp_ge (pc' := 21) (tgt := 42) rfl dX5_picture_18 (by decide +kernel) (fun c18 => ?_) (fun c18 => ?_)
    · exact absurd c18 (nI_ge (by omega) (by omega))
    · refine sw_aload_n (pc' := 22) rfl dX5_picture_21 rfl ?_
      refine sw_iload (pc' := 24) rfl dX5_picture_22 rfl ?_
      refine sw_aload_n (pc' := 25) rfl dX5_picture_24 rfl ?_
      refine sw_getf (ci := 6) (k := 3) (pc' := 28) rfl dX5_picture_25 (by decide +kernel) w_1116 ((hF 135 (by omega)).trans hM.ob) rfl ?_
      refine sw_iload_n (pc' := 29) rfl dX5_picture_28 rfl ?_
      refine sw_aald (j := k) (pc' := 30) rfl dX5_picture_29 ((hF 136 (by omega)).trans hG0) (by decide +kernel) (by decide +kernel) rfl (by omega) (by decide +kernel) (eG0 k (by omega)) ?_
      refine sw_iload_n (pc' := 31) rfl dX5_picture_30 rfl ?_
      refine sw_iload (pc' := 33) rfl dX5_picture_31 rfl ?_
      refine sw_iadd (pc' := 34) rfl dX5_picture_33 ?_
      rw [show (0 : Int32) + nI j = nI j from Int32.zero_add _]
      refine sw_iald (j := j) (pc' := 35) rfl dX5_picture_34 ((hF (137 + k) (by omega)).trans (hM.row (k := k) (by omega))) rfl (by omega) (by decide +kernel) ?_
      rw [hA.1 k (by omega) j (by omega)]
      refine sw_iast (j := j) (pc' := 36) rfl dX5_picture_35 hr (by show 100 ≤ _; omega) rfl (by omega) (by omega) ?_
      refine sw_nm (fun g1 eg1 => ?_)
      have zg1 := (congrFun eg1 n).trans (up_s (h := g) (i := n))
      refine sw_iinc (pc' := 39) (lv' := [(4, _), (3, _), (0, _), (1, _), (2, _)]) (v := nI (j + 1)) rfl dX5_picture_36 rfl (nI_1 j) (by decide +kernel) rfl ?_
      refine sw_goto (tgt := 14) dX5_picture_39 (by decide +kernel) ?_
      exact ih (j + 1) g1 _ (by omega) zg1 (fun i hi => (Nat.lt_or_ge i j).elim (fun g => (up_n (by omega)).trans (hf i g)) (fun g => (show i = j by omega) ▸ up_s)) (fun i h1 => (congrFun eg1 i).trans ((up_n h1).trans (hF i h1)))
theorem q_picture {h : AH} {d bc bs n : Nat} {ρ : Nat → Nat → Int32} {τ : Nat → Int32} {σ : CS} {th : Int32} (hM : MM h ρ τ σ th) (hA : AG ρ τ σ) {k : Nat} (hk : k < 11) (hc : σ.2.1 k ≤ 12) (hn : 158 ≤ n) (h1 : 1 ≤ bc) (h2 : 12 ≤ bs) : SM SR0 MX5_picture d bc bs [.ref 135, .int (nI k), .int 0] h n (NA h n (σ.2.1 k) (σ.1 k)) := by
  obtain ⟨G0, hG0, eG0⟩ := hM.out
  refine sm_of pn_OverwalksModel rfl (Nat.le_of_ble_eq_true rfl) ?_
  refine sw_aload_n (pc' := 1) rfl dX5_picture_0 rfl ?_
  refine sw_getf (ci := 6) (k := 4) (pc' := 4) rfl dX5_picture_1 (by decide +kernel) w_1117 hM.ob rfl ?_
  refine sw_iload_n (pc' := 5) rfl dX5_picture_4 rfl ?_
  refine sw_iald (j := k) (pc' := 6) rfl dX5_picture_5 hM.sz rfl (by omega) (by decide +kernel) ?_
  refine sw_iload_n (pc' := 7) rfl dX5_picture_6 rfl ?_
  refine sw_isub (pc' := 8) rfl dX5_picture_7 ?_
  rw [show nI (σ.2.1 k) - 0 = nI (σ.2.1 k) from Int32.sub_zero _]
  refine sw_newa (t := 0) (len := σ.2.1 k) (pc' := 10) rfl dX5_picture_8 (by decide +kernel) w_101 rfl (by omega) (by omega) (by omega) ?_
  refine sw_nm (fun g2 eg2 => ?_)
  have zg2 := (congrFun eg2 n).trans (up_s (h := h) (i := n))
  refine sw_astore_n (pc' := 11) (lv' := [(3, _), (0, _), (1, _), (2, _)]) rfl dX5_picture_10 (by decide +kernel) rfl ?_
  refine sw_iconst (pc' := 12) (v := 0) rfl dX5_picture_11 (by decide +kernel) ?_
  refine sw_istore (pc' := 14) (lv' := [(4, _), (3, _), (0, _), (1, _), (2, _)]) rfl dX5_picture_12 (by decide +kernel) rfl ?_
  exact ql_picture hM hA hk hc hn (σ.2.1 k) 0 g2 _ (by omega) zg2 (fun i hi => absurd hi (Nat.not_lt_zero _)) (fun i h1 => (congrFun eg2 i).trans ((up_n h1).trans (rfl)))
theorem ql_made {h : AH} {d bc bs n : Nat} {ρ : Nat → Nat → Int32} {τ : Nat → Int32} {σ : CS} {th : Int32} {a B : Nat} {g f : Nat → Int32} (hM : MM h ρ τ σ th) (hA : AG ρ τ σ) {k : Nat} (hk : k < 11) (ha : 158 ≤ a) (hB : h a = .inl (0, B, .inl g)) (hB9 : B ≤ 12) (hf : ∀ j, j < B → g j = f j) (m : Nat) : ∀ (j : Nat) (q : AH), j + m = B → q (137 + k) = .inl (0, 12, .inl (blN (ρ k) g 0 j)) → (∀ i, i ≠ 137 + k → q i = h i) → SW SR0 MX5_made d bc bs 2 [(3, .int (nI j)), (0, .ref 135), (1, .int (nI k)), (2, .ref a)] [] q n (RP h n (some (.int (nI B))) (sU σ k f B (σ.2.2.1 k + 1) (σ.2.2.2.1 k)) th) := by
  obtain ⟨G0, hG0, eG0⟩ := hM.out
  induction m with
  | zero =>
    intro j q hj hr hF
    have hjB : j = B := by omega
    subst hjB
    refine sw_iload_n (pc' := 3) rfl dX5_made_2 rfl ?_
    refine sw_aload_n (pc' := 4) rfl dX5_made_3 rfl ?_
    refine sw_alen (pc' := 5) rfl dX5_made_4 ((hF a (by omega)).trans hB) (by decide +kernel) (Or.inl (by show 100 ≤ _; omega)) ?_
    refine sw_icmp_ge (pc' := 8) (tgt := 25) rfl dX5_made_5 (by decide +kernel) (fun c5 => ?_) (fun c5 => ?_)
    · refine sw_aload_n (pc' := 26) rfl dX5_made_25 rfl ?_
      refine sw_getf (ci := 6) (k := 4) (pc' := 29) rfl dX5_made_26 (by decide +kernel) w_1117 ((hF 135 (by omega)).trans hM.ob) rfl ?_
      refine sw_iload_n (pc' := 30) rfl dX5_made_29 rfl ?_
      refine sw_aload_n (pc' := 31) rfl dX5_made_30 rfl ?_
      refine sw_alen (pc' := 32) rfl dX5_made_31 ((hF a (by omega)).trans hB) (by decide +kernel) (Or.inl (by show 100 ≤ _; omega)) ?_
      refine sw_iast (j := k) (pc' := 33) rfl dX5_made_32 ((hF 148 (by omega)).trans hM.sz) (by decide +kernel) rfl (by omega) (by decide +kernel) ?_
      refine sw_nm (fun g1 eg1 => ?_)
      have zg1 := (congrFun eg1 148).trans (up_s (h := q) (i := 148))
      refine sw_aload_n (pc' := 34) rfl dX5_made_33 rfl ?_
      refine sw_getf (ci := 6) (k := 5) (pc' := 37) rfl dX5_made_34 (by decide +kernel) w_1118 (((congrFun eg1 135).trans (up_n (by omega))).trans ((hF 135 (by omega)).trans hM.ob)) rfl ?_
      refine sw_iload_n (pc' := 38) rfl dX5_made_37 rfl ?_
      refine sw_dup2 (pc' := 39) rfl dX5_made_38 rfl rfl ?_
      refine sw_iald (j := k) (pc' := 40) rfl dX5_made_39 (((congrFun eg1 149).trans (up_n (by omega))).trans ((hF 149 (by omega)).trans hM.sf)) rfl (by omega) (by decide +kernel) ?_
      refine sw_iconst (pc' := 41) (v := 1) rfl dX5_made_40 (by decide +kernel) ?_
      refine sw_iadd (pc' := 42) rfl dX5_made_41 ?_
      refine sw_iast (j := k) (pc' := 43) rfl dX5_made_42 (((congrFun eg1 149).trans (up_n (by omega))).trans ((hF 149 (by omega)).trans hM.sf)) (by decide +kernel) rfl (by omega) (by decide +kernel) ?_
      refine sw_nm (fun g2 eg2 => ?_)
      have zg2 := (congrFun eg2 149).trans (up_s (h := g1) (i := 149))
      refine sw_aload_n (pc' := 44) rfl dX5_made_43 rfl ?_
      refine sw_alen (pc' := 45) rfl dX5_made_44 (((congrFun eg2 a).trans (up_n (by omega))).trans (((congrFun eg1 a).trans (up_n (by omega))).trans ((hF a (by omega)).trans hB))) (by decide +kernel) (Or.inl (by show 100 ≤ _; omega)) ?_
      refine sw_ret (v := some _) ⟨dX5_made_45, _, rfl, rfl⟩ ?_
      have fin : ∀ i, i ≠ 137 + k → i ≠ 148 → i ≠ 149 → i ≠ 156 → g2 i = h i := fun i h1 h2 h3 _ => (congrFun eg2 i).trans ((up_n (by omega)).trans ((congrFun eg1 i).trans ((up_n (by omega)).trans (hF i h1))))
      exact ⟨rfl, rfl, ⟨_, _, hM.shU hk (c := j) (((congrFun eg2 (137 + k)).trans (up_n (by omega))).trans (((congrFun eg1 (137 + k)).trans (up_n (by omega))).trans hr)) (((congrFun eg2 148).trans (up_n (by omega))).trans zg1) zg2 (by rw [up_id]; exact (((congrFun eg2 156).trans (up_n (by omega))).trans (((congrFun eg1 156).trans (up_n (by omega))).trans ((hF 156 (by omega)).trans hM.tu)))) fin, hA.shU (fun i hi => (blN_in hi).trans ((congrArg g (Nat.zero_add i)).trans (hf i hi)))⟩, FrM.of1 (fun i q => fin i (by omega) (by omega) (by omega) (by omega))⟩
    · exact absurd (Int32.le_refl _) c5
  | succ m ih =>
    intro j q hj hr hF
    refine sw_iload_n (pc' := 3) rfl dX5_made_2 rfl ?_
    refine sw_aload_n (pc' := 4) rfl dX5_made_3 rfl ?_
    refine sw_alen (pc' := 5) rfl dX5_made_4 ((hF a (by omega)).trans hB) (by decide +kernel) (Or.inl (by show 100 ≤ _; omega)) ?_
    refine sw_icmp_ge (pc' := 8) (tgt := 25) rfl dX5_made_5 (by decide +kernel) (fun c5 => ?_) (fun c5 => ?_)
    · exact absurd c5 (nI_ge (by omega) (by omega))
    · refine sw_aload_n (pc' := 9) rfl dX5_made_8 rfl ?_
      refine sw_getf (ci := 6) (k := 3) (pc' := 12) rfl dX5_made_9 (by decide +kernel) w_1116 ((hF 135 (by omega)).trans hM.ob) rfl ?_
      refine sw_iload_n (pc' := 13) rfl dX5_made_12 rfl ?_
      refine sw_aald (j := k) (pc' := 14) rfl dX5_made_13 ((hF 136 (by omega)).trans hG0) (by decide +kernel) (by decide +kernel) rfl (by omega) (by decide +kernel) (eG0 k (by omega)) ?_
      refine sw_iload_n (pc' := 15) rfl dX5_made_14 rfl ?_
      refine sw_aload_n (pc' := 16) rfl dX5_made_15 rfl ?_
      refine sw_iload_n (pc' := 17) rfl dX5_made_16 rfl ?_
      refine sw_iald (j := j) (pc' := 18) rfl dX5_made_17 ((hF a (by omega)).trans hB) rfl (by omega) (by omega) ?_
      refine sw_iast (j := j) (pc' := 19) rfl dX5_made_18 hr (by show 100 ≤ _; omega) rfl (by omega) (by decide +kernel) ?_
      refine sw_nm (fun g3 eg3 => ?_)
      have zg3 := (congrFun eg3 (137 + k)).trans (up_s (h := q) (i := (137 + k)))
      refine sw_iinc (pc' := 22) (lv' := [(3, _), (0, _), (1, _), (2, _)]) (v := nI (j + 1)) rfl dX5_made_19 rfl (nI_1 j) (by decide +kernel) rfl ?_
      refine sw_goto (tgt := 2) dX5_made_22 (by decide +kernel) ?_
      exact ih (j + 1) g3 (by omega) (blN_z ▸ zg3) (fun i h1 => (congrFun eg3 i).trans ((up_n h1).trans (hF i h1)))
theorem q_made {h : AH} {d bc bs n : Nat} {ρ : Nat → Nat → Int32} {τ : Nat → Int32} {σ : CS} {th : Int32} {a B : Nat} {g f : Nat → Int32} (hM : MM h ρ τ σ th) (hA : AG ρ τ σ) {k : Nat} (hk : k < 11) (ha : 158 ≤ a) (hB : h a = .inl (0, B, .inl g)) (hB9 : B ≤ 12) (hf : ∀ j, j < B → g j = f j) : SM SR0 MX5_made d bc bs [.ref 135, .int (nI k), .ref a] h n (RP h n (some (.int (nI B))) (sU σ k f B (σ.2.2.1 k + 1) (σ.2.2.2.1 k)) th) := by
  obtain ⟨G0, hG0, eG0⟩ := hM.out
  refine sm_of pn_OverwalksModel rfl (Nat.le_of_ble_eq_true rfl) ?_
  refine sw_iconst (pc' := 1) (v := 0) rfl dX5_made_0 (by decide +kernel) ?_
  refine sw_istore_n (pc' := 2) (lv' := [(3, _), (0, _), (1, _), (2, _)]) rfl dX5_made_1 (by decide +kernel) rfl ?_
  exact ql_made hM hA hk ha hB hB9 hf B 0 h (by omega) (by rw [blN_0]; exact hM.row hk) (fun _ _ => rfl)
theorem q_isUnmade_k {h : AH} {d bc bs n : Nat} {ρ : Nat → Nat → Int32} {τ : Nat → Int32} {σ : CS} {th : Int32} (hM : MM h ρ τ σ th) {k : Nat} (hk : k < 6) (ov : wO σ k < 11) (hd : 2 ≤ d) : SM SR0 MX5_isUnmade d bc bs [.ref 135, .int (nI k)] h n (Det (rI (bI (!(σ.2.2.2.2.1 k).1))) h n) := by
  refine sm_of pn_OverwalksModel rfl (Nat.le_of_ble_eq_true rfl) ?_
  rcases hm : (σ.2.2.2.2.1 k).1 with _ | _
  · refine sw_iload_n (pc' := 1) rfl dX5_isUnmade_0 rfl ?_
    refine sw_S (M' := MX5_isNoWalk) (d' := d - 1) (bc' := 0) (bs' := 0) (as := [_]) dX5_isUnmade_1 w_1306 ok_X5_isNoWalk (q_isNoWalk (by omega)) (by omega) (Nat.le_of_ble_eq_true rfl) (Nat.zero_le _) (Nat.zero_le _) (fun E h' n' _ z => det_x z) (det_k ?_)
    rw [show inB (nI k) 0 5 = true from inB_k (N := 5) (by omega) (by decide +kernel)]
    show SW _ _ _ _ _ _ _ (.int 0 :: _) _ _ _
    refine sw_if_ne (pc' := 7) (tgt := 21) rfl dX5_isUnmade_4 (by decide +kernel) (fun c4 => ?_) (fun c4 => ?_)
    · exact absurd c4 (by decide +kernel)
    · refine sw_aload_n (pc' := 8) rfl dX5_isUnmade_7 rfl ?_
      refine sw_getf (ci := 6) (k := 6) (pc' := 11) rfl dX5_isUnmade_8 (by decide +kernel) w_1119 hM.ob rfl ?_
      refine sw_iload_n (pc' := 12) rfl dX5_isUnmade_11 rfl ?_
      refine sw_iald (j := k) (pc' := 13) rfl dX5_isUnmade_12 hM.sh rfl (by omega) (by decide +kernel) ?_
      rw [shF_n hk hm]
      refine sw_iconst (pc' := 14) (v := (-1)) rfl dX5_isUnmade_13 (by decide +kernel) ?_
      refine sw_icmp_ne (pc' := 17) (tgt := 21) rfl dX5_isUnmade_14 (by decide +kernel) (fun c14 => ?_) (fun c14 => ?_)
      · exact absurd c14 (by decide +kernel)
      · refine sw_iconst (pc' := 18) (v := 1) rfl dX5_isUnmade_17 (by decide +kernel) ?_
        refine sw_goto (tgt := 22) dX5_isUnmade_18 (by decide +kernel) ?_
        refine sw_ret (v := some _) ⟨dX5_isUnmade_22, _, rfl, rfl⟩ ?_
        exact ⟨rfl, rfl, rfl⟩
  · refine sw_iload_n (pc' := 1) rfl dX5_isUnmade_0 rfl ?_
    refine sw_S (M' := MX5_isNoWalk) (d' := d - 1) (bc' := 0) (bs' := 0) (as := [_]) dX5_isUnmade_1 w_1306 ok_X5_isNoWalk (q_isNoWalk (by omega)) (by omega) (Nat.le_of_ble_eq_true rfl) (Nat.zero_le _) (Nat.zero_le _) (fun E h' n' _ z => det_x z) (det_k ?_)
    rw [show inB (nI k) 0 5 = true from inB_k (N := 5) (by omega) (by decide +kernel)]
    show SW _ _ _ _ _ _ _ (.int 0 :: _) _ _ _
    refine sw_if_ne (pc' := 7) (tgt := 21) rfl dX5_isUnmade_4 (by decide +kernel) (fun c4 => ?_) (fun c4 => ?_)
    · exact absurd c4 (by decide +kernel)
    · refine sw_aload_n (pc' := 8) rfl dX5_isUnmade_7 rfl ?_
      refine sw_getf (ci := 6) (k := 6) (pc' := 11) rfl dX5_isUnmade_8 (by decide +kernel) w_1119 hM.ob rfl ?_
      refine sw_iload_n (pc' := 12) rfl dX5_isUnmade_11 rfl ?_
      refine sw_iald (j := k) (pc' := 13) rfl dX5_isUnmade_12 hM.sh rfl (by omega) (by decide +kernel) ?_
      rw [shF_m hk hm]
      refine sw_iconst (pc' := 14) (v := (-1)) rfl dX5_isUnmade_13 (by decide +kernel) ?_
      refine sw_icmp_ne (pc' := 17) (tgt := 21) rfl dX5_isUnmade_14 (by decide +kernel) (fun c14 => ?_) (fun c14 => ?_)
      · refine sw_iconst (pc' := 22) (v := 0) rfl dX5_isUnmade_21 (by decide +kernel) ?_
        refine sw_ret (v := some _) ⟨dX5_isUnmade_22, _, rfl, rfl⟩ ?_
        exact ⟨rfl, rfl, rfl⟩
      · exact absurd c14 (nI_ne1 (by omega))
theorem q_isUnmade_x {h : AH} {d bc bs n : Nat} {ρ : Nat → Nat → Int32} {τ : Nat → Int32} {σ : CS} {th : Int32} {a : Int32} (hM : MM h ρ τ σ th) (hx : inB a 0 5 = false) (hd : 2 ≤ d) : SM SR0 MX5_isUnmade d bc bs [.ref 135, .int a] h n (Det (rI 0) h n) := by
  refine sm_of pn_OverwalksModel rfl (Nat.le_of_ble_eq_true rfl) ?_
  refine sw_iload_n (pc' := 1) rfl dX5_isUnmade_0 rfl ?_
  refine sw_S (M' := MX5_isNoWalk) (d' := d - 1) (bc' := 0) (bs' := 0) (as := [_]) dX5_isUnmade_1 w_1306 ok_X5_isNoWalk (q_isNoWalk (by omega)) (by omega) (Nat.le_of_ble_eq_true rfl) (Nat.zero_le _) (Nat.zero_le _) (fun E h' n' _ z => det_x z) (det_k ?_)
  rw [hx]
  show SW _ _ _ _ _ _ _ (.int 1 :: _) _ _ _
  refine sw_if_ne (pc' := 7) (tgt := 21) rfl dX5_isUnmade_4 (by decide +kernel) (fun c4 => ?_) (fun c4 => ?_)
  · refine sw_iconst (pc' := 22) (v := 0) rfl dX5_isUnmade_21 (by decide +kernel) ?_
    refine sw_ret (v := some _) ⟨dX5_isUnmade_22, _, rfl, rfl⟩ ?_
    exact ⟨rfl, rfl, rfl⟩
  · exact absurd c4 (by decide +kernel)
theorem q_isStale {h : AH} {d bc bs n : Nat} {ρ : Nat → Nat → Int32} {τ : Nat → Int32} {σ : CS} {th : Int32} (hM : MM h ρ τ σ th) {k : Nat} (hk : k < 6) (hm : (σ.2.2.2.2.1 k).1 = true) (ov : wO σ k < 11) : SM SR0 MX5_isStale d bc bs [.ref 135, .int (nI k)] h n (Det (rI (bI (wSt σ k))) h n) := by
  refine sm_of pn_OverwalksModel rfl (Nat.le_of_ble_eq_true rfl) ?_
  refine sw_aload_n (pc' := 1) rfl dX5_isStale_0 rfl ?_
  refine sw_getf (ci := 6) (k := 9) (pc' := 4) rfl dX5_isStale_1 (by decide +kernel) w_1122 hM.ob rfl ?_
  refine sw_iload_n (pc' := 5) rfl dX5_isStale_4 rfl ?_
  refine sw_iald (j := k) (pc' := 6) rfl dX5_isStale_5 hM.st rfl (by omega) (by decide +kernel) ?_
  refine sw_aload_n (pc' := 7) rfl dX5_isStale_6 rfl ?_
  refine sw_getf (ci := 6) (k := 5) (pc' := 10) rfl dX5_isStale_7 (by decide +kernel) w_1118 hM.ob rfl ?_
  refine sw_aload_n (pc' := 11) rfl dX5_isStale_10 rfl ?_
  refine sw_getf (ci := 6) (k := 6) (pc' := 14) rfl dX5_isStale_11 (by decide +kernel) w_1119 hM.ob rfl ?_
  refine sw_iload_n (pc' := 15) rfl dX5_isStale_14 rfl ?_
  refine sw_iald (j := k) (pc' := 16) rfl dX5_isStale_15 hM.sh rfl (by omega) (by decide +kernel) ?_
  rw [shF_m hk hm]
  refine sw_iald (j := wO σ k) (pc' := 17) rfl dX5_isStale_16 hM.sf rfl (by omega) (by decide +kernel) ?_
  refine sw_icmp_eq (pc' := 20) (tgt := 24) rfl dX5_isStale_17 (by decide +kernel) (fun c17 => ?_) (fun c17 => ?_)
  · refine sw_iconst (pc' := 25) (v := 0) rfl dX5_isStale_24 (by decide +kernel) ?_
    refine sw_ret (v := some _) ⟨dX5_isStale_25, _, rfl, rfl⟩ ?_
    exact ⟨by rw [wSt_f c17]; rfl, rfl, rfl⟩
  · refine sw_iconst (pc' := 21) (v := 1) rfl dX5_isStale_20 (by decide +kernel) ?_
    refine sw_goto (tgt := 25) dX5_isStale_21 (by decide +kernel) ?_
    refine sw_ret (v := some _) ⟨dX5_isStale_25, _, rfl, rfl⟩ ?_
    exact ⟨by rw [wSt_t c17]; rfl, rfl, rfl⟩
theorem q_hasMore {h : AH} {d bc bs n : Nat} {ρ : Nat → Nat → Int32} {τ : Nat → Int32} {σ : CS} {th : Int32} (hM : MM h ρ τ σ th) {k : Nat} (hk : k < 6) (hm : (σ.2.2.2.2.1 k).1 = true) (ov : wO σ k < 11) : SM SR0 MX5_hasMore d bc bs [.ref 135, .int (nI k)] h n (Det (rI (bI (decide (wAh σ k < nI (σ.2.1 (wO σ k)))))) h n) := by
  refine sm_of pn_OverwalksModel rfl (Nat.le_of_ble_eq_true rfl) ?_
  refine sw_aload_n (pc' := 1) rfl dX5_hasMore_0 rfl ?_
  refine sw_getf (ci := 6) (k := 10) (pc' := 4) rfl dX5_hasMore_1 (by decide +kernel) w_1123 hM.ob rfl ?_
  refine sw_iload_n (pc' := 5) rfl dX5_hasMore_4 rfl ?_
  refine sw_iald (j := k) (pc' := 6) rfl dX5_hasMore_5 hM.pl rfl (by omega) (by decide +kernel) ?_
  refine sw_aload_n (pc' := 7) rfl dX5_hasMore_6 rfl ?_
  refine sw_getf (ci := 6) (k := 4) (pc' := 10) rfl dX5_hasMore_7 (by decide +kernel) w_1117 hM.ob rfl ?_
  refine sw_aload_n (pc' := 11) rfl dX5_hasMore_10 rfl ?_
  refine sw_getf (ci := 6) (k := 6) (pc' := 14) rfl dX5_hasMore_11 (by decide +kernel) w_1119 hM.ob rfl ?_
  refine sw_iload_n (pc' := 15) rfl dX5_hasMore_14 rfl ?_
  refine sw_iald (j := k) (pc' := 16) rfl dX5_hasMore_15 hM.sh rfl (by omega) (by decide +kernel) ?_
  rw [shF_m hk hm]
  refine sw_iald (j := wO σ k) (pc' := 17) rfl dX5_hasMore_16 hM.sz rfl (by omega) (by decide +kernel) ?_
  refine sw_icmp_ge (pc' := 20) (tgt := 24) rfl dX5_hasMore_17 (by decide +kernel) (fun c17 => ?_) (fun c17 => ?_)
  · refine sw_iconst (pc' := 25) (v := 0) rfl dX5_hasMore_24 (by decide +kernel) ?_
    refine sw_ret (v := some _) ⟨dX5_hasMore_25, _, rfl, rfl⟩ ?_
    exact ⟨by rw [decide_eq_false (Int32.not_lt.mpr c17)]; rfl, rfl, rfl⟩
  · refine sw_iconst (pc' := 21) (v := 1) rfl dX5_hasMore_20 (by decide +kernel) ?_
    refine sw_goto (tgt := 25) dX5_hasMore_21 (by decide +kernel) ?_
    refine sw_ret (v := some _) ⟨dX5_hasMore_25, _, rfl, rfl⟩ ?_
    exact ⟨by rw [decide_eq_true (Int32.not_le.mp c17)]; rfl, rfl, rfl⟩
theorem q_give {h : AH} {d bc bs n : Nat} {ρ : Nat → Nat → Int32} {τ : Nat → Int32} {σ : CS} {th : Int32} {A : Nat} (hM : MM h ρ τ σ th) (hA : AG ρ τ σ) {k : Nat} (hk : k < 6) (hm : (σ.2.2.2.2.1 k).1 = true) (ov : wO σ k < 11) (hc : σ.2.1 (wO σ k) ≤ 12) (eA : wAh σ k = nI A) (hAc : A < σ.2.1 (wO σ k)) : SM SR0 MX5_give d bc bs [.ref 135, .int (nI k)] h n (RP h n (some (.int (σ.1 (wO σ k) A))) (gvU σ k 1) th) := by
  obtain ⟨G0, hG0, eG0⟩ := hM.out
  refine sm_of pn_OverwalksModel rfl (Nat.le_of_ble_eq_true rfl) ?_
  refine sw_aload_n (pc' := 1) rfl dX5_give_0 rfl ?_
  refine sw_getf (ci := 6) (k := 3) (pc' := 4) rfl dX5_give_1 (by decide +kernel) w_1116 hM.ob rfl ?_
  refine sw_aload_n (pc' := 5) rfl dX5_give_4 rfl ?_
  refine sw_getf (ci := 6) (k := 6) (pc' := 8) rfl dX5_give_5 (by decide +kernel) w_1119 hM.ob rfl ?_
  refine sw_iload_n (pc' := 9) rfl dX5_give_8 rfl ?_
  refine sw_iald (j := k) (pc' := 10) rfl dX5_give_9 hM.sh rfl (by omega) (by decide +kernel) ?_
  rw [shF_m hk hm]
  refine sw_aald (j := wO σ k) (pc' := 11) rfl dX5_give_10 hG0 (by decide +kernel) (by decide +kernel) rfl (by omega) (by decide +kernel) (eG0 (wO σ k) (by omega)) ?_
  refine sw_aload_n (pc' := 12) rfl dX5_give_11 rfl ?_
  refine sw_getf (ci := 6) (k := 10) (pc' := 15) rfl dX5_give_12 (by decide +kernel) w_1123 hM.ob rfl ?_
  refine sw_iload_n (pc' := 16) rfl dX5_give_15 rfl ?_
  refine sw_iald (j := k) (pc' := 17) rfl dX5_give_16 hM.pl rfl (by omega) (by decide +kernel) ?_
  rw [eA]
  refine sw_iald (j := A) (pc' := 18) rfl dX5_give_17 (hM.row (k := (wO σ k)) (by omega)) rfl (by omega) (by decide +kernel) ?_
  rw [hA.1 (wO σ k) (by omega) A (by omega)]
  refine sw_istore_n (pc' := 19) (lv' := [(2, _), (0, _), (1, _)]) rfl dX5_give_18 (by decide +kernel) rfl ?_
  refine sw_aload_n (pc' := 20) rfl dX5_give_19 rfl ?_
  refine sw_getf (ci := 6) (k := 10) (pc' := 23) rfl dX5_give_20 (by decide +kernel) w_1123 hM.ob rfl ?_
  refine sw_iload_n (pc' := 24) rfl dX5_give_23 rfl ?_
  refine sw_dup2 (pc' := 25) rfl dX5_give_24 rfl rfl ?_
  refine sw_iald (j := k) (pc' := 26) rfl dX5_give_25 hM.pl rfl (by omega) (by decide +kernel) ?_
  rw [eA]
  refine sw_iconst (pc' := 27) (v := 1) rfl dX5_give_26 (by decide +kernel) ?_
  refine sw_iadd (pc' := 28) rfl dX5_give_27 ?_
  rw [show (nI A) + 1 = nI (A + 1) from nI_add _ _]
  refine sw_iast (j := k) (pc' := 29) rfl dX5_give_28 hM.pl (by decide +kernel) rfl (by omega) (by decide +kernel) ?_
  refine sw_nm (fun g1 eg1 => ?_)
  have zg1 := (congrFun eg1 154).trans (up_s (h := h) (i := 154))
  refine sw_aload_n (pc' := 30) rfl dX5_give_29 rfl ?_
  refine sw_getf (ci := 6) (k := 8) (pc' := 33) rfl dX5_give_30 (by decide +kernel) w_1121 (((congrFun eg1 135).trans (up_n (by omega))).trans hM.ob) rfl ?_
  refine sw_iload_n (pc' := 34) rfl dX5_give_33 rfl ?_
  refine sw_dup2 (pc' := 35) rfl dX5_give_34 rfl rfl ?_
  refine sw_iald (j := k) (pc' := 36) rfl dX5_give_35 (((congrFun eg1 152).trans (up_n (by omega))).trans hM.gi) rfl (by omega) (by decide +kernel) ?_
  refine sw_iconst (pc' := 37) (v := 1) rfl dX5_give_36 (by decide +kernel) ?_
  refine sw_iadd (pc' := 38) rfl dX5_give_37 ?_
  refine sw_iast (j := k) (pc' := 39) rfl dX5_give_38 (((congrFun eg1 152).trans (up_n (by omega))).trans hM.gi) (by decide +kernel) rfl (by omega) (by decide +kernel) ?_
  refine sw_nm (fun g2 eg2 => ?_)
  have zg2 := (congrFun eg2 152).trans (up_s (h := g1) (i := 152))
  refine sw_aload_n (pc' := 40) rfl dX5_give_39 rfl ?_
  refine sw_getf (ci := 6) (k := 11) (pc' := 43) rfl dX5_give_40 (by decide +kernel) w_1124 (((congrFun eg2 135).trans (up_n (by omega))).trans (((congrFun eg1 135).trans (up_n (by omega))).trans hM.ob)) rfl ?_
  refine sw_iload_n (pc' := 44) rfl dX5_give_43 rfl ?_
  refine sw_iconst (pc' := 45) (v := 1) rfl dX5_give_44 (by decide +kernel) ?_
  refine sw_zast (j := k) (pc' := 46) rfl dX5_give_45 (((congrFun eg2 155).trans (up_n (by omega))).trans (((congrFun eg1 155).trans (up_n (by omega))).trans hM.ct)) (by decide +kernel) rfl (by omega) (by decide +kernel) ?_
  refine sw_nm (fun g3 eg3 => ?_)
  have zg3 := (congrFun eg3 155).trans (up_s (h := g2) (i := 155))
  refine sw_aload_n (pc' := 47) rfl dX5_give_46 rfl ?_
  refine sw_getf (ci := 6) (k := 13) (pc' := 50) rfl dX5_give_47 (by decide +kernel) w_1126 (((congrFun eg3 135).trans (up_n (by omega))).trans (((congrFun eg2 135).trans (up_n (by omega))).trans (((congrFun eg1 135).trans (up_n (by omega))).trans hM.ob))) rfl ?_
  refine sw_iload_n (pc' := 51) rfl dX5_give_50 rfl ?_
  refine sw_aload_n (pc' := 52) rfl dX5_give_51 rfl ?_
  refine sw_getf (ci := 6) (k := 12) (pc' := 55) rfl dX5_give_52 (by decide +kernel) w_1125 (((congrFun eg3 135).trans (up_n (by omega))).trans (((congrFun eg2 135).trans (up_n (by omega))).trans (((congrFun eg1 135).trans (up_n (by omega))).trans hM.ob))) rfl ?_
  refine sw_aload_n (pc' := 56) rfl dX5_give_55 rfl ?_
  refine sw_getf (ci := 6) (k := 6) (pc' := 59) rfl dX5_give_56 (by decide +kernel) w_1119 (((congrFun eg3 135).trans (up_n (by omega))).trans (((congrFun eg2 135).trans (up_n (by omega))).trans (((congrFun eg1 135).trans (up_n (by omega))).trans hM.ob))) rfl ?_
  refine sw_iload_n (pc' := 60) rfl dX5_give_59 rfl ?_
  refine sw_iald (j := k) (pc' := 61) rfl dX5_give_60 (((congrFun eg3 150).trans (up_n (by omega))).trans (((congrFun eg2 150).trans (up_n (by omega))).trans (((congrFun eg1 150).trans (up_n (by omega))).trans hM.sh))) rfl (by omega) (by decide +kernel) ?_
  rw [shF_m hk hm]
  refine sw_iald (j := wO σ k) (pc' := 62) rfl dX5_give_61 (((congrFun eg3 156).trans (up_n (by omega))).trans (((congrFun eg2 156).trans (up_n (by omega))).trans (((congrFun eg1 156).trans (up_n (by omega))).trans hM.tu))) rfl (by omega) (by decide +kernel) ?_
  refine sw_iast (j := k) (pc' := 63) rfl dX5_give_62 (((congrFun eg3 157).trans (up_n (by omega))).trans (((congrFun eg2 157).trans (up_n (by omega))).trans (((congrFun eg1 157).trans (up_n (by omega))).trans hM.td))) (by decide +kernel) rfl (by omega) (by decide +kernel) ?_
  refine sw_nm (fun g4 eg4 => ?_)
  have zg4 := (congrFun eg4 157).trans (up_s (h := g3) (i := 157))
  refine sw_iload_n (pc' := 64) rfl dX5_give_63 rfl ?_
  refine sw_ret (v := some _) ⟨dX5_give_64, _, rfl, rfl⟩ ?_
  exact ⟨rfl, rfl, ⟨_, _, hM.giveU hk hm eA (((congrFun eg4 152).trans (up_n (by omega))).trans (((congrFun eg3 152).trans (up_n (by omega))).trans zg2)) (((congrFun eg4 154).trans (up_n (by omega))).trans (((congrFun eg3 154).trans (up_n (by omega))).trans (((congrFun eg2 154).trans (up_n (by omega))).trans zg1))) (((congrFun eg4 155).trans (up_n (by omega))).trans zg3) zg4 (fun i h1 h2 h3 h4 => (congrFun eg4 i).trans ((up_n (by omega)).trans ((congrFun eg3 i).trans ((up_n (by omega)).trans ((congrFun eg2 i).trans ((up_n (by omega)).trans ((congrFun eg1 i).trans ((up_n (by omega)).trans (rfl))))))))), hA.giveU⟩, FrM.of1 (fun i q => (congrFun eg4 i).trans ((up_n (by omega)).trans ((congrFun eg3 i).trans ((up_n (by omega)).trans ((congrFun eg2 i).trans ((up_n (by omega)).trans ((congrFun eg1 i).trans ((up_n (by omega)).trans (rfl)))))))))⟩
theorem q_giveG {h : AH} {d bc bs n : Nat} {ρ : Nat → Nat → Int32} {τ : Nat → Int32} {σ : CS} {th : Int32} {A m : Nat} {k : Nat} (hM : MM h ρ τ (gvU σ k m) th) (hA : AG ρ τ (gvU σ k m)) (hk : k < 6) (hm : (σ.2.2.2.2.1 k).1 = true) (ov : wO σ k < 11) (hc : σ.2.1 (wO σ k) ≤ 12) (eA : wAh σ k = nI A) (hAc : A + m < σ.2.1 (wO σ k)) : SM SR0 MX5_give d bc bs [.ref 135, .int (nI k)] h n (RP h n (some (.int (σ.1 (wO σ k) (A + m)))) (gvU σ k (m + 1)) th) := by
  have g := q_give (σ := gvU σ k m) (d := d) (bc := bc) (bs := bs) (n := n) (A := A + m) hM hA hk (wMk_g.trans hm) (by rw [wO_g]; exact ov) (by rw [wO_g]; exact hc) (wAh_g eA) (by rw [wO_g]; exact hAc)
  rw [gvU_s, wO_g] at g
  exact g
theorem ql_left {h0 : AH} {d bc bs n k A : Nat} {σ : CS} {th : Int32} (hk : k < 6) (hm : (σ.2.2.2.2.1 k).1 = true) (ov : wO σ k < 11) (hc : σ.2.1 (wO σ k) ≤ 12) (eA : wAh σ k = nI A) (hAc : A ≤ σ.2.1 (wO σ k)) (hn : 158 ≤ n) (hd : 1 ≤ d) (m : Nat) : ∀ (j : Nat) (h : AH) (ρ : Nat → Nat → Int32) (τ : Nat → Int32) (f : Nat → Int32), j + m = σ.2.1 (wO σ k) - A → MM h ρ τ (gvU σ k j) th → AG ρ τ (gvU σ k j) → h n = .inl (0, σ.2.1 (wO σ k) - A, .inl f) → (∀ i, i < j → f i = σ.1 (wO σ k) (A + i)) → FrM h0 h n → SW SR0 MX5_left d bc bs 23 [(3, .int (nI j)), (2, .ref n), (0, .ref 135), (1, .int (nI k))] [] h (n + 1) (NL h0 n (σ.2.1 (wO σ k) - A) (fun j => σ.1 (wO σ k) (A + j)) (gvU σ k (σ.2.1 (wO σ k) - A)) th) := by
  induction m with
  | zero =>
    intro j h ρ τ f hj hM hA hr hf hF
    obtain ⟨G0, hG0, eG0⟩ := hM.out
    have hjc : j = σ.2.1 (wO σ k) - A := by omega
    subst hjc
    refine sw_iload_n (pc' := 24) rfl dX5_left_23 rfl ?_
    refine sw_aload_n (pc' := 25) rfl dX5_left_24 rfl ?_
    refine sw_alen (pc' := 26) rfl dX5_left_25 hr (by decide +kernel) (Or.inl (by show 100 ≤ _; omega)) ?_
    refine sw_icmp_ge (pc' := 29) (tgt := 43) rfl dX5_left_26 (by decide +kernel) (fun c26 => ?_) (fun c26 => ?_)
    · refine sw_aload_n (pc' := 44) rfl dX5_left_43 rfl ?_
      refine sw_ret (v := some _) ⟨dX5_left_44, _, rfl, Or.inr ⟨_, rfl⟩⟩ ?_
      exact ⟨rfl, rfl, ⟨f, hr, hf⟩, ⟨_, _, hM, hA⟩, hF⟩
    · exact absurd (Int32.le_refl _) c26
  | succ m ih =>
    intro j h ρ τ f hj hM hA hr hf hF
    obtain ⟨G0, hG0, eG0⟩ := hM.out
    refine sw_iload_n (pc' := 24) rfl dX5_left_23 rfl ?_
    refine sw_aload_n (pc' := 25) rfl dX5_left_24 rfl ?_
    refine sw_alen (pc' := 26) rfl dX5_left_25 hr (by decide +kernel) (Or.inl (by show 100 ≤ _; omega)) ?_
    refine sw_icmp_ge (pc' := 29) (tgt := 43) rfl dX5_left_26 (by decide +kernel) (fun c26 => ?_) (fun c26 => ?_)
    · exact absurd c26 (nI_ge (by omega) (by omega))
    · refine sw_aload_n (pc' := 30) rfl dX5_left_29 rfl ?_
      refine sw_iload_n (pc' := 31) rfl dX5_left_30 rfl ?_
      refine sw_aload_n (pc' := 32) rfl dX5_left_31 rfl ?_
      refine sw_iload_n (pc' := 33) rfl dX5_left_32 rfl ?_
      refine sw_V (M' := MX5_give) (d' := d - 1) (bc' := 0) (bs' := 0) (ci := 6) (as := [_]) dX5_left_33 w_1325 ok_X5_give (q_giveG hM hA hk hm ov hc eA (by omega)) hM.ob rfl (by omega) (Nat.le_of_ble_eq_true rfl) (Nat.zero_le _) (Nat.zero_le _) (fun E h' n' _ z => rp_x z) (rp_k (fun p pρ pτ pM pA pF => ?_))
      obtain ⟨Gp, hGp, eGp⟩ := pM.out
      have hrp := (pF n (Or.inr hn) (by omega)).trans hr
      refine sw_iast (j := j) (pc' := 37) rfl dX5_left_36 hrp (by show 100 ≤ _; omega) rfl (by omega) (by omega) ?_
      refine sw_nm (fun g1 eg1 => ?_)
      have zg1 := (congrFun eg1 n).trans (up_s (h := p) (i := n))
      refine sw_iinc (pc' := 40) (lv' := [(3, _), (2, _), (0, _), (1, _)]) (v := nI (j + 1)) rfl dX5_left_37 rfl (nI_1 j) (by decide +kernel) rfl ?_
      refine sw_goto (tgt := 23) dX5_left_40 (by decide +kernel) ?_
      exact ih (j + 1) g1 pρ pτ _ (by omega) (pM.fr (fun i h1 h2 => (congrFun eg1 i).trans ((up_n (by omega)).trans (rfl)))) pA zg1 (fun i hi => (Nat.lt_or_ge i j).elim (fun g => (up_n (by omega)).trans (hf i g)) (fun g => (show i = j by omega) ▸ up_s)) (fun i q g => ((congrFun eg1 i).trans ((up_n (by omega)).trans (rfl))).trans ((pF i q (by omega)).trans (hF i q g)))
theorem q_left {h : AH} {d bc bs n : Nat} {ρ : Nat → Nat → Int32} {τ : Nat → Int32} {σ : CS} {th : Int32} {k A : Nat} (hM : MM h ρ τ σ th) (hA : AG ρ τ σ) (hk : k < 6) (hm : (σ.2.2.2.2.1 k).1 = true) (ov : wO σ k < 11) (hc : σ.2.1 (wO σ k) ≤ 12) (eA : wAh σ k = nI A) (hAc : A ≤ σ.2.1 (wO σ k)) (hn : 158 ≤ n) (hd : 1 ≤ d) (h1 : 1 ≤ bc) (h2 : 12 ≤ bs) : SM SR0 MX5_left d bc bs [.ref 135, .int (nI k)] h n (NL h n (σ.2.1 (wO σ k) - A) (fun j => σ.1 (wO σ k) (A + j)) (gvU σ k (σ.2.1 (wO σ k) - A)) th) := by
  obtain ⟨G0, hG0, eG0⟩ := hM.out
  refine sm_of pn_OverwalksModel rfl (Nat.le_of_ble_eq_true rfl) ?_
  refine sw_aload_n (pc' := 1) rfl dX5_left_0 rfl ?_
  refine sw_getf (ci := 6) (k := 4) (pc' := 4) rfl dX5_left_1 (by decide +kernel) w_1117 hM.ob rfl ?_
  refine sw_aload_n (pc' := 5) rfl dX5_left_4 rfl ?_
  refine sw_getf (ci := 6) (k := 6) (pc' := 8) rfl dX5_left_5 (by decide +kernel) w_1119 hM.ob rfl ?_
  refine sw_iload_n (pc' := 9) rfl dX5_left_8 rfl ?_
  refine sw_iald (j := k) (pc' := 10) rfl dX5_left_9 hM.sh rfl (by omega) (by decide +kernel) ?_
  rw [shF_m hk hm]
  refine sw_iald (j := wO σ k) (pc' := 11) rfl dX5_left_10 hM.sz rfl (by omega) (by decide +kernel) ?_
  refine sw_aload_n (pc' := 12) rfl dX5_left_11 rfl ?_
  refine sw_getf (ci := 6) (k := 10) (pc' := 15) rfl dX5_left_12 (by decide +kernel) w_1123 hM.ob rfl ?_
  refine sw_iload_n (pc' := 16) rfl dX5_left_15 rfl ?_
  refine sw_iald (j := k) (pc' := 17) rfl dX5_left_16 hM.pl rfl (by omega) (by decide +kernel) ?_
  rw [eA]
  refine sw_isub (pc' := 18) rfl dX5_left_17 ?_
  rw [show nI (σ.2.1 (wO σ k)) - nI A = nI (σ.2.1 (wO σ k) - A) from pk_sub (by omega)]
  refine sw_newa (t := 0) (len := σ.2.1 (wO σ k) - A) (pc' := 20) rfl dX5_left_18 (by decide +kernel) w_101 rfl (by omega) (by omega) (by omega) ?_
  refine sw_nm (fun g2 eg2 => ?_)
  have zg2 := (congrFun eg2 n).trans (up_s (h := h) (i := n))
  refine sw_astore_n (pc' := 21) (lv' := [(2, _), (0, _), (1, _)]) rfl dX5_left_20 (by decide +kernel) rfl ?_
  refine sw_iconst (pc' := 22) (v := 0) rfl dX5_left_21 (by decide +kernel) ?_
  refine sw_istore_n (pc' := 23) (lv' := [(3, _), (2, _), (0, _), (1, _)]) rfl dX5_left_22 (by decide +kernel) rfl ?_
  exact ql_left (h0 := h) hk hm ov hc eA hAc hn hd (σ.2.1 (wO σ k) - A) 0 g2 ρ τ _ (by omega) (by rw [gvU_0]; exact hM.fr (fun i h1 h2 => (congrFun eg2 i).trans ((up_n (by omega)).trans (rfl)))) (by rw [gvU_0]; exact hA) zg2 (fun i hi => absurd hi (Nat.not_lt_zero _)) (fun i q g => (congrFun eg2 i).trans ((up_n (by omega)).trans (rfl)))
