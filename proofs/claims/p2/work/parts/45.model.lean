section
/-! 45.model -/
/-! the model: what is asked of rows; turn, rotate, pour -/
theorem rem100 {x : Int32} (h : 0 ≤ x ∧ x ≤ 100) : x - x / 100 * 100 = if x = 100 then 0 else x := by
  obtain ⟨a, ha, rfl⟩ := nI_of2 (M := 100) (n := 100) (by decide +kernel) (Int32.not_lt.mpr h.1) h.2
  have e := pk_rem (a := a) (d := 100) (by omega) (by decide +kernel) (by decide +kernel)
  have e2 : nI a - nI a / 100 * 100 = nI (a % 100) := e
  rw [e2]
  by_cases q : a = 100
  · subst q; rfl
  · rw [if_neg (show ¬ nI a = 100 from fun g => q ((nI_eq (b := 100) (by omega) (by decide +kernel)).mp g)), Nat.mod_eq_of_lt (by omega)]
/-- the last of the first j places, or else what was found before -/
def fnd (f : Nat → Int32) (x : Int32) (c j : Nat) : Int32 := match lpN f x j with
  | some i => nI i
  | none => opI (fpN f x 0 c)
theorem fnd_0 {f : Nat → Int32} {x : Int32} {c : Nat} : fnd f x c 0 = opI (fpN f x 0 c) := rfl
theorem fnd_s {f : Nat → Int32} {x : Int32} {c j : Nat} : fnd f x c (j + 1) = if f j = x then nI j else fnd f x c j := by
  unfold fnd
  show (match (if f j = x then some j else lpN f x j) with | some i => nI i | none => _) = _
  by_cases e : f j = x
  · rw [if_pos e, if_pos e]
  · rw [if_neg e, if_neg e]
theorem lpN_none {f : Nat → Int32} {x : Int32} {m : Nat} (h : lpN f x m = none) : ∀ i, i < m → f i ≠ x := by
  induction m with
  | zero => intro i hi; omega
  | succ m ih =>
    intro i hi
    unfold lpN at h
    by_cases e : f m = x
    · rw [if_pos e] at h; cases h
    · rw [if_neg e] at h
      by_cases g : i = m
      · rw [g]; exact e
      · exact ih h i (by omega)
theorem fnd_c {f : Nat → Int32} {x : Int32} {c : Nat} : fnd f x c c = opI (lpN f x c) := by
  unfold fnd
  cases e : lpN f x c with
  | some i => rfl
  | none => exact congrArg opI (fpN_none.mpr (fun i _ hi => lpN_none e i (by omega)))
theorem tk100 {k : Nat} : tkB k 100 = kN (kdO k) := rfl
theorem nnB_f1 {σ : CS} {k l : Nat} (h : (fpN (σ.1 k) 100 0 (σ.2.1 k)).isSome = false) : nnB σ k l = false := by unfold nnB; rw [h]; rfl
theorem nnB_f2 {σ : CS} {k l : Nat} (h : kN (kdO l) = true) : nnB σ k l = false := by unfold nnB; rw [tk100, h, Bool.not_true, Bool.and_false]
theorem nnB_t {σ : CS} {k l : Nat} (h : (fpN (σ.1 k) 100 0 (σ.2.1 k)).isSome = true) (g : kN (kdO l) = false) : nnB σ k l = true := by unfold nnB; rw [h, tk100, g]; rfl
theorem rv_at {f : Nat → Int32} {c : Nat} : ∀ j, j < c → f (c - 1 - j) = rvN f 0 (0 + c) j := by
  intro j hj
  unfold rvN
  rw [if_pos ⟨Nat.zero_le _, by omega⟩]
  exact congrArg f (by omega)
/-- where the j-th goes, y places on -/
def wrN (y c j : Nat) : Nat := if j + y < c then j + y else j + y - c
theorem wrN_lt {y c j : Nat} (hy : y < c) (hj : j < c) : wrN y c j < c := by unfold wrN; split <;> omega
theorem wrN_inj {y c i j : Nat} (hy : y < c) (hi : i < c) (hj : j < c) (h : wrN y c i = wrN y c j) : i = j := by unfold wrN at h; split at h <;> split at h <;> omega
theorem mvO_wr {f : Nat → Int32} {c y j : Nat} (hy : y < c) (hj : j < c) : mvO f c y (wrN y c j) = f j := by
  unfold mvO
  by_cases e : j + y < c
  · rw [show wrN y c j = j + y from if_pos e]
    have e1 : rvN (rvN (rvN f 0 (0 + c)) 0 (0 + y)) y (y + (c - y)) (j + y) = rvN (rvN f 0 (0 + c)) 0 (0 + y) (y + (y + (c - y)) - 1 - (j + y)) := if_pos ⟨by omega, by omega⟩
    have e2 : rvN (rvN f 0 (0 + c)) 0 (0 + y) (y + (y + (c - y)) - 1 - (j + y)) = rvN f 0 (0 + c) (y + (y + (c - y)) - 1 - (j + y)) := if_neg (fun q => by omega)
    have e3 : rvN f 0 (0 + c) (y + (y + (c - y)) - 1 - (j + y)) = f (0 + (0 + c) - 1 - (y + (y + (c - y)) - 1 - (j + y))) := if_pos ⟨Nat.zero_le _, by omega⟩
    rw [e1, e2, e3]
    exact congrArg f (by omega)
  · rw [show wrN y c j = j + y - c from if_neg e]
    have e1 : rvN (rvN (rvN f 0 (0 + c)) 0 (0 + y)) y (y + (c - y)) (j + y - c) = rvN (rvN f 0 (0 + c)) 0 (0 + y) (j + y - c) := if_neg (fun q => by omega)
    have e2 : rvN (rvN f 0 (0 + c)) 0 (0 + y) (j + y - c) = rvN f 0 (0 + c) (0 + (0 + y) - 1 - (j + y - c)) := if_pos ⟨Nat.zero_le _, by omega⟩
    have e3 : rvN f 0 (0 + c) (0 + (0 + y) - 1 - (j + y - c)) = f (0 + (0 + c) - 1 - (0 + (0 + y) - 1 - (j + y - c))) := if_pos ⟨Nat.zero_le _, by omega⟩
    rw [e1, e2, e3]
    exact congrArg f (by omega)
/-- each place is somebody's -/
theorem wrN_sur {y c q : Nat} (hy : y < c) (hq : q < c) : ∃ j, j < c ∧ wrN y c j = q := by
  by_cases e : q < y
  · exact ⟨c - y + q, by omega, by unfold wrN; rw [if_neg (by omega)]; omega⟩
  · exact ⟨q - y, by omega, by unfold wrN; rw [if_pos (by omega)]; omega⟩
def rotOK (c b : Nat) : Bool := decide ((fmI (nI b - 20) (nI c)).toNatClampNeg < c) && (decide (fmI (nI b - 20) (nI c) = nI (fmI (nI b - 20) (nI c)).toNatClampNeg) && (List.range c).all (fun j =>
  decide ((nI j + (nI b - 20)) - (nI j + (nI b - 20)) / nI c * nI c + nI c - ((nI j + (nI b - 20)) - (nI j + (nI b - 20)) / nI c * nI c + nI c) / nI c * nI c = nI (wrN (fmI (nI b - 20) (nI c)).toNatClampNeg c j))))
theorem rot_all : (List.range 13).all (fun c => decide (c = 0) || (List.range 41).all (fun b => rotOK c b)) = true := by decide +kernel
theorem by20 {x : Int32} (q : ¬ (x < -20 ∨ 20 < x)) : ∃ b, b < 41 ∧ x = nI b - 20 := by
  have h1 : -20 ≤ x := Int32.not_lt.mp (fun g => q (Or.inl g))
  have h2 : x ≤ 20 := Int32.not_lt.mp (fun g => q (Or.inr g))
  have t1 : (-20 : Int) ≤ x.toInt := Int32.le_iff_toInt_le.mp h1
  have t2 : x.toInt ≤ 20 := Int32.le_iff_toInt_le.mp h2
  refine ⟨(x.toInt + 20).toNat, by omega, ?_⟩
  apply Int32.toInt_inj.mp
  rw [Int32.toInt_sub, nI_toInt (by omega)]
  show x.toInt = ((((x.toInt + 20).toNat : Nat) : Int) - 20).bmod (2 ^ 32)
  rw [Int.toNat_of_nonneg (by omega), Int.add_sub_cancel, Int.bmod_eq_of_le (by omega) (by omega)]
theorem rot_k {x : Int32} {c : Nat} (q : ¬ (x < -20 ∨ 20 < x)) (h0 : 0 < c) (hc : c ≤ 12) : (fmI x (nI c)).toNatClampNeg < c ∧ ∀ j, j < c → (nI j + x) - (nI j + x) / nI c * nI c + nI c - ((nI j + x) - (nI j + x) / nI c * nI c + nI c) / nI c * nI c = nI (wrN (fmI x (nI c)).toNatClampNeg c j) := by
  obtain ⟨b, hb, rfl⟩ := by20 q
  have h := List.all_eq_true.mp rot_all c (List.mem_range.mpr (by omega))
  rw [decide_eq_false (by omega), Bool.false_or] at h
  have h2 := List.all_eq_true.mp h b (List.mem_range.mpr hb)
  unfold rotOK at h2
  rw [Bool.and_eq_true, Bool.and_eq_true] at h2
  exact ⟨of_decide_eq_true h2.1, fun j hj => of_decide_eq_true (List.all_eq_true.mp h2.2.2 j (List.mem_range.mpr hj))⟩
theorem fpN_eq_some {f : Nat → Int32} {x : Int32} {c i : Nat} (hi : i < c) (h : f i = x) : (fpN f x 0 c).isSome = true := by
  cases e : (fpN f x 0 c).isSome with
  | true => rfl
  | false => exact absurd h (fpN_isS e i hi)
/-- pouring, in the class's words and in the model's -/
theorem pb_ca {s j c : Nat} {f : Nat → Int32} (hs : s < 11) (hj : j < 11) (i0 : Nat) (m : Nat) : ∀ (t : Nat) (w : Bool) (σ : CS), (∀ q, q < c → σ.1 s q = f q) → c ≤ σ.2.1 s → σ.2.1 s ≤ 12 → σ.2.1 j + m ≤ 12 → i0 + t + m ≤ c → pbM s j (i0 + t) m w σ = caM j (fun q => f (i0 + q)) t m w σ := by
  induction m with
  | zero => intro t w σ _ _ _ _ _; rfl
  | succ m ih =>
    intro t w σ h1 h2 h3 h4 h5
    have e : taI (σ.1 s) (σ.2.1 s) (nI (i0 + t)) = f (i0 + t) := (taI_in (by omega) h3).trans (h1 _ (by omega))
    unfold pbM caM
    rw [e]
    have hu := ldU_c2 (σ := σ) (k := j) (x := f (i0 + t))
    refine ih (t + 1) _ _ ?_ ?_ ?_ (by omega) (by omega)
    · intro q hq
      by_cases g : s = j
      · subst g
        unfold ldU
        by_cases y : ldY (σ.1 s) (σ.2.1 s) (kdO s) (f (i0 + t)) = true
        · rw [if_pos y]
          show up σ.1 s _ s q = _
          rw [up_s]
          have hp : ¬ kdO s = 2 := by
            intro k2
            unfold ldY at y
            rw [k2, fpN_eq_some (f := σ.1 s) (x := f (i0 + t)) (c := σ.2.1 s) (i := i0 + t) (by omega) (h1 _ (by omega))] at y
            exact absurd y (by decide +kernel)
          rw [show ldP (σ.1 s) (σ.2.1 s) (kdO s) (f (i0 + t)) = σ.2.1 s from if_neg hp, laN_lt (by omega)]
          exact h1 q hq
        · rw [if_neg y]; exact h1 q hq
      · rw [(ldU_o (σ := σ) (k := j) (x := f (i0 + t)) g).1]; exact h1 q hq
    · by_cases g : s = j
      · subst g
        unfold ldU
        split
        · show c ≤ up σ.2.1 s _ s
          rw [up_s]; omega
        · exact h2
      · rw [(ldU_o (σ := σ) (k := j) (x := f (i0 + t)) g).2.1]; exact h2
    · by_cases g : s = j
      · subst g; omega
      · rw [(ldU_o (σ := σ) (k := j) (x := f (i0 + t)) g).2.1]; exact h3

theorem ql_code {h : AH} {d bc bs n : Nat} {ρ : Nat → Nat → Int32} {τ : Nat → Int32} {σ : CS} {th : Int32} {Post : ARes → AH → Nat → Prop} (hM : MM h ρ τ σ th) (hA : AG ρ τ σ) {k : Nat} (hk : k < 11) (hc : σ.2.1 k ≤ 12) (ht : ∀ j, j < σ.2.1 k → 0 ≤ σ.1 k j ∧ σ.1 k j ≤ 100) (m : Nat) : ∀ (j : Nat) (v : Int32), j + m = σ.2.1 k → Post (.inl (some (.int (cdN (σ.1 k) j m v)))) h n → SW SR0 MX5_code d bc bs 17 [(3, .int (nI j)), (2, .int v), (0, .ref 135), (1, .int (nI k))] [] h n Post := by
  obtain ⟨G0, hG0, eG0⟩ := hM.out
  induction m with
  | zero =>
    intro j v hj fq
    have hjc : j = σ.2.1 k := by omega
    subst hjc
    refine sw_iload_n (pc' := 18) rfl dX5_code_17 rfl ?_
    refine sw_aload_n (pc' := 19) rfl dX5_code_18 rfl ?_
    refine sw_getf (ci := 6) (k := 4) (pc' := 22) rfl dX5_code_19 (by decide +kernel) w_1117 hM.ob rfl ?_
    refine sw_iload_n (pc' := 23) rfl dX5_code_22 rfl ?_
    refine sw_iald (j := k) (pc' := 24) rfl dX5_code_23 hM.sz rfl (by omega) (by decide +kernel) ?_
    refine sw_icmp_ge (pc' := 27) (tgt := 50) rfl dX5_code_24 (by decide +kernel) (fun c24 => ?_) (fun c24 => ?_)
    · refine sw_iload_n (pc' := 51) rfl dX5_code_50 rfl ?_
      refine sw_ret (v := some _) ⟨dX5_code_51, _, rfl, rfl⟩ ?_
      exact fq
    · exact absurd (Int32.le_refl _) c24
  | succ m ih =>
    intro j v hj fq
    refine sw_iload_n (pc' := 18) rfl dX5_code_17 rfl ?_
    refine sw_aload_n (pc' := 19) rfl dX5_code_18 rfl ?_
    refine sw_getf (ci := 6) (k := 4) (pc' := 22) rfl dX5_code_19 (by decide +kernel) w_1117 hM.ob rfl ?_
    refine sw_iload_n (pc' := 23) rfl dX5_code_22 rfl ?_
    refine sw_iald (j := k) (pc' := 24) rfl dX5_code_23 hM.sz rfl (by omega) (by decide +kernel) ?_
    refine sw_icmp_ge (pc' := 27) (tgt := 50) rfl dX5_code_24 (by decide +kernel) (fun c24 => ?_) (fun c24 => ?_)
    · exact absurd c24 (nI_ge (by omega) (by omega))
    · refine sw_iload_n (pc' := 28) rfl dX5_code_27 rfl ?_
      refine sw_bipush (pc' := 30) (v := 31) rfl dX5_code_28 (by decide +kernel) ?_
      refine sw_imul (pc' := 31) rfl dX5_code_30 ?_
      refine sw_aload_n (pc' := 32) rfl dX5_code_31 rfl ?_
      refine sw_getf (ci := 6) (k := 3) (pc' := 35) rfl dX5_code_32 (by decide +kernel) w_1116 hM.ob rfl ?_
      refine sw_iload_n (pc' := 36) rfl dX5_code_35 rfl ?_
      refine sw_aald (j := k) (pc' := 37) rfl dX5_code_36 hG0 (by decide +kernel) (by decide +kernel) rfl (by omega) (by decide +kernel) (eG0 k (by omega)) ?_
      refine sw_iload_n (pc' := 38) rfl dX5_code_37 rfl ?_
      refine sw_iald (j := j) (pc' := 39) rfl dX5_code_38 (hM.row (k := k) (by omega)) rfl (by omega) (by decide +kernel) ?_
      rw [hA.1 k (by omega) j (by omega)]
      refine sw_bipush (pc' := 41) (v := 100) rfl dX5_code_39 (by decide +kernel) ?_
      refine sw_irem (pc' := 42) rfl dX5_code_41 (by decide +kernel) ?_
      rw [rem100 (ht j (by omega))]
      refine sw_iadd (pc' := 43) rfl dX5_code_42 ?_
      refine sw_istore_n (pc' := 44) (lv' := [(2, _), (3, _), (0, _), (1, _)]) rfl dX5_code_43 (by decide +kernel) rfl ?_
      refine sw_iinc (pc' := 47) (lv' := [(3, _), (2, _), (0, _), (1, _)]) (v := nI (j + 1)) rfl dX5_code_44 rfl (nI_1 j) (by decide +kernel) rfl ?_
      refine sw_goto (tgt := 17) dX5_code_47 (by decide +kernel) ?_
      exact ih (j + 1) _ (by omega) fq
theorem q_code {h : AH} {d bc bs n : Nat} {σ : CS} {th : Int32} {a : Int32} (hR : RMo h σ th) (hI : Iv σ) (hn : 159 ≤ n) (hd : 8 ≤ d) (h1 : 1 ≤ bc) (h2 : 12 ≤ bs)  : SM SR0 MX5_code d bc bs [.ref 135, .int a] h n (PM h n (tc sI sI) (opCode σ a)) := by
  obtain ⟨ρ, τ, hM, hA⟩ := hR
  obtain ⟨G0, hG0, eG0⟩ := hM.out
  refine sm_of pn_OverwalksModel rfl (Nat.le_of_ble_eq_true rfl) ?_
  rcases idxN 11 (by decide +kernel) a with qk1 | ⟨k, hk, rfl⟩
  · refine sw_aload_n (pc' := 1) rfl dX5_code_0 rfl ?_
    refine sw_iload_n (pc' := 2) rfl dX5_code_1 rfl ?_
    refine sw_S (M' := MX5_isNone) (d' := d - 1) (bc' := 0) (bs' := 0) (as := [_]) dX5_code_2 w_1165 ok_X5_isNone (q_isNone (by omega)) (by omega) (Nat.le_of_ble_eq_true rfl) (Nat.zero_le _) (Nat.zero_le _) (fun E h' n' _ z => det_x z) (det_k ?_)
    rw [show inB a 0 10 = false from no_x (N := 10) (by decide +kernel) qk1]
    show SW _ _ _ _ _ _ _ (.int 1 :: _) _ _ _
    refine sw_V (M' := MX5_isStopped__) (d' := d - 1) (bc' := 0) (bs' := 0) (ci := 6) (as := [_]) dX5_code_5 w_1235 ok_X5_isStopped__ (q_isStopped1 (a := true) hM hA (by omega)) hM.ob rfl (by omega) (Nat.le_of_ble_eq_true rfl) (Nat.zero_le _) (Nat.zero_le _) (fun E h' n' _ z => rp_x z) (rp_k (fun p5 p5ρ p5τ p5M p5A p5F => ?_))
    obtain ⟨Gp5, hGp5, eGp5⟩ := p5M.out
    show SW _ _ _ _ _ _ _ (.int 1 :: _) _ _ _
    refine sw_if_eq (pc' := 11) (tgt := 13) rfl dX5_code_8 (by decide +kernel) (fun c8 => ?_) (fun c8 => ?_)
    · exact absurd c8 (by decide +kernel)
    · refine sw_iconst (pc' := 12) (v := 0) rfl dX5_code_11 (by decide +kernel) ?_
      refine sw_ret (v := some _) ⟨dX5_code_12, _, rfl, rfl⟩ ?_
      rw [opCode, onSh_x qk1]
      exact pm_x tc_1 p5M p5A p5F (Nat.le_refl _)
  have hck := hI.1 k hk
  refine sw_aload_n (pc' := 1) rfl dX5_code_0 rfl ?_
  refine sw_iload_n (pc' := 2) rfl dX5_code_1 rfl ?_
  refine sw_S (M' := MX5_isNone) (d' := d - 1) (bc' := 0) (bs' := 0) (as := [_]) dX5_code_2 w_1165 ok_X5_isNone (q_isNone (by omega)) (by omega) (Nat.le_of_ble_eq_true rfl) (Nat.zero_le _) (Nat.zero_le _) (fun E h' n' _ z => det_x z) (det_k ?_)
  rw [show inB (nI k) 0 10 = true from inB_k (N := 10) (by omega) (by decide +kernel)]
  show SW _ _ _ _ _ _ _ (.int 0 :: _) _ _ _
  refine sw_V (M' := MX5_isStopped__) (d' := d - 1) (bc' := 0) (bs' := 0) (ci := 6) (as := [_]) dX5_code_5 w_1235 ok_X5_isStopped__ (q_isStopped1 (a := false) hM hA (by omega)) hM.ob rfl (by omega) (Nat.le_of_ble_eq_true rfl) (Nat.zero_le _) (Nat.zero_le _) (fun E h' n' _ z => rp_x z) (rp_k (fun p5 p5ρ p5τ p5M p5A p5F => ?_))
  obtain ⟨Gp5, hGp5, eGp5⟩ := p5M.out
  show SW _ _ _ _ _ _ _ (.int 0 :: _) _ _ _
  refine sw_if_eq (pc' := 11) (tgt := 13) rfl dX5_code_8 (by decide +kernel) (fun c8 => ?_) (fun c8 => ?_)
  · refine sw_iconst (pc' := 14) (v := 1) rfl dX5_code_13 (by decide +kernel) ?_
    refine sw_istore_n (pc' := 15) (lv' := [(2, _), (0, _), (1, _)]) rfl dX5_code_14 (by decide +kernel) rfl ?_
    refine sw_iconst (pc' := 16) (v := 0) rfl dX5_code_15 (by decide +kernel) ?_
    refine sw_istore_n (pc' := 17) (lv' := [(3, _), (2, _), (0, _), (1, _)]) rfl dX5_code_16 (by decide +kernel) rfl ?_
    refine ql_code p5M p5A hk hck (hI.2.2.1 k hk) (σ.2.1 k) 0 1 (by omega) ?_
    rw [opCode, onSh_k hk]
    exact pm_k p5M p5A p5F (Nat.le_refl _)
  · exact absurd c8 (by decide +kernel)
theorem ql_areAlike {h : AH} {d bc bs n : Nat} {ρ : Nat → Nat → Int32} {τ : Nat → Int32} {σ : CS} {th : Int32} {Post : ARes → AH → Nat → Prop} (hM : MM h ρ τ σ th) (hA : AG ρ τ σ) {k : Nat} (hk : k < 11) (hc : σ.2.1 k ≤ 12) {l : Nat} (hl : l < 11) (m : Nat) : ∀ (j : Nat) (w : Bool), j + m = σ.2.1 k → (w = true → σ.2.1 k = σ.2.1 l) → Post (.inl (some (.int (bI (w && alB (σ.1 k) (σ.1 l) j m))))) h n → SW SR0 MX5_areAlike d bc bs 52 [(4, .int (nI j)), (3, .int (bI w)), (0, .ref 135), (1, .int (nI k)), (2, .int (nI l))] [] h n Post := by
  obtain ⟨G0, hG0, eG0⟩ := hM.out
  induction m with
  | zero =>
    intro j w hj hw fq
    rw [show alB (σ.1 k) (σ.1 l) j 0 = true from rfl, Bool.and_true] at fq
    have hjc : j = σ.2.1 k := by omega
    subst hjc
    refine sw_iload_n (pc' := 53) rfl dX5_areAlike_52 rfl ?_
    refine sw_if_eq (pc' := 56) (tgt := 100) rfl dX5_areAlike_53 (by decide +kernel) (fun c53 => ?_) (fun c53 => ?_)
    · refine sw_iload_n (pc' := 101) rfl dX5_areAlike_100 rfl ?_
      refine sw_ret (v := some _) ⟨dX5_areAlike_101, _, rfl, bI_i⟩ ?_
      exact fq
    · refine sw_iload (pc' := 58) rfl dX5_areAlike_56 rfl ?_
      refine sw_aload_n (pc' := 59) rfl dX5_areAlike_58 rfl ?_
      refine sw_getf (ci := 6) (k := 4) (pc' := 62) rfl dX5_areAlike_59 (by decide +kernel) w_1117 hM.ob rfl ?_
      refine sw_iload_n (pc' := 63) rfl dX5_areAlike_62 rfl ?_
      refine sw_iald (j := k) (pc' := 64) rfl dX5_areAlike_63 hM.sz rfl (by omega) (by decide +kernel) ?_
      refine sw_icmp_ge (pc' := 67) (tgt := 100) rfl dX5_areAlike_64 (by decide +kernel) (fun c64 => ?_) (fun c64 => ?_)
      · refine sw_iload_n (pc' := 101) rfl dX5_areAlike_100 rfl ?_
        refine sw_ret (v := some _) ⟨dX5_areAlike_101, _, rfl, bI_i⟩ ?_
        exact fq
      · exact absurd (Int32.le_refl _) c64
  | succ m ih =>
    intro j w hj hw fq
    cases w with
    | false =>
      refine sw_iload_n (pc' := 53) rfl dX5_areAlike_52 rfl ?_
      refine sw_if_eq (pc' := 56) (tgt := 100) rfl dX5_areAlike_53 (by decide +kernel) (fun c53 => ?_) (fun c53 => ?_)
      · refine sw_iload_n (pc' := 101) rfl dX5_areAlike_100 rfl ?_
        refine sw_ret (v := some _) ⟨dX5_areAlike_101, _, rfl, rfl⟩ ?_
        exact fq
      · exact absurd c53 (by decide +kernel)
    | true =>
      have e := hw rfl
      rw [Bool.true_and, alB] at fq
      refine sw_iload_n (pc' := 53) rfl dX5_areAlike_52 rfl ?_
      refine sw_if_eq (pc' := 56) (tgt := 100) rfl dX5_areAlike_53 (by decide +kernel) (fun c53 => ?_) (fun c53 => ?_)
      · exact absurd c53 (by decide +kernel)
      · refine sw_iload (pc' := 58) rfl dX5_areAlike_56 rfl ?_
        refine sw_aload_n (pc' := 59) rfl dX5_areAlike_58 rfl ?_
        refine sw_getf (ci := 6) (k := 4) (pc' := 62) rfl dX5_areAlike_59 (by decide +kernel) w_1117 hM.ob rfl ?_
        refine sw_iload_n (pc' := 63) rfl dX5_areAlike_62 rfl ?_
        refine sw_iald (j := k) (pc' := 64) rfl dX5_areAlike_63 hM.sz rfl (by omega) (by decide +kernel) ?_
        refine sw_icmp_ge (pc' := 67) (tgt := 100) rfl dX5_areAlike_64 (by decide +kernel) (fun c64 => ?_) (fun c64 => ?_)
        · exact absurd c64 (nI_ge (by omega) (by omega))
        · refine sw_aload_n (pc' := 68) rfl dX5_areAlike_67 rfl ?_
          refine sw_getf (ci := 6) (k := 3) (pc' := 71) rfl dX5_areAlike_68 (by decide +kernel) w_1116 hM.ob rfl ?_
          refine sw_iload_n (pc' := 72) rfl dX5_areAlike_71 rfl ?_
          refine sw_aald (j := k) (pc' := 73) rfl dX5_areAlike_72 hG0 (by decide +kernel) (by decide +kernel) rfl (by omega) (by decide +kernel) (eG0 k (by omega)) ?_
          refine sw_iload (pc' := 75) rfl dX5_areAlike_73 rfl ?_
          refine sw_iald (j := j) (pc' := 76) rfl dX5_areAlike_75 (hM.row (k := k) (by omega)) rfl (by omega) (by decide +kernel) ?_
          rw [hA.1 k (by omega) j (by omega)]
          refine sw_aload_n (pc' := 77) rfl dX5_areAlike_76 rfl ?_
          refine sw_getf (ci := 6) (k := 3) (pc' := 80) rfl dX5_areAlike_77 (by decide +kernel) w_1116 hM.ob rfl ?_
          refine sw_iload_n (pc' := 81) rfl dX5_areAlike_80 rfl ?_
          refine sw_aald (j := l) (pc' := 82) rfl dX5_areAlike_81 hG0 (by decide +kernel) (by decide +kernel) rfl (by omega) (by decide +kernel) (eG0 l (by omega)) ?_
          refine sw_iload (pc' := 84) rfl dX5_areAlike_82 rfl ?_
          refine sw_iald (j := j) (pc' := 85) rfl dX5_areAlike_84 (hM.row (k := l) (by omega)) rfl (by omega) (by decide +kernel) ?_
          rw [hA.1 l (by omega) j (by omega)]
          refine sw_icmp_ne (pc' := 88) (tgt := 92) rfl dX5_areAlike_85 (by decide +kernel) (fun c85 => ?_) (fun c85 => ?_)
          · refine sw_iconst (pc' := 93) (v := 0) rfl dX5_areAlike_92 (by decide +kernel) ?_
            refine sw_istore_n (pc' := 94) (lv' := [(3, _), (4, _), (0, _), (1, _), (2, _)]) rfl dX5_areAlike_93 (by decide +kernel) rfl ?_
            refine sw_iinc (pc' := 97) (lv' := [(4, _), (3, _), (0, _), (1, _), (2, _)]) (v := nI (j + 1)) rfl dX5_areAlike_94 rfl (nI_1 j) (by decide +kernel) rfl ?_
            refine sw_goto (tgt := 52) dX5_areAlike_97 (by decide +kernel) ?_
            refine ih (j + 1) false (by omega) (fun _ => e) ?_
            rw [decide_eq_false c85] at fq
            exact fq
          · refine sw_iconst (pc' := 89) (v := 1) rfl dX5_areAlike_88 (by decide +kernel) ?_
            refine sw_goto (tgt := 93) dX5_areAlike_89 (by decide +kernel) ?_
            refine sw_istore_n (pc' := 94) (lv' := [(3, _), (4, _), (0, _), (1, _), (2, _)]) rfl dX5_areAlike_93 (by decide +kernel) rfl ?_
            refine sw_iinc (pc' := 97) (lv' := [(4, _), (3, _), (0, _), (1, _), (2, _)]) (v := nI (j + 1)) rfl dX5_areAlike_94 rfl (nI_1 j) (by decide +kernel) rfl ?_
            refine sw_goto (tgt := 52) dX5_areAlike_97 (by decide +kernel) ?_
            refine ih (j + 1) true (by omega) (fun _ => e) ?_
            rw [decide_eq_true c85] at fq
            exact fq
theorem q_areAlike {h : AH} {d bc bs n : Nat} {σ : CS} {th : Int32} {a b : Int32} (hR : RMo h σ th) (hI : Iv σ) (hn : 159 ≤ n) (hd : 8 ≤ d) (h1 : 1 ≤ bc) (h2 : 12 ≤ bs)  : SM SR0 MX5_areAlike d bc bs [.ref 135, .int a, .int b] h n (PM h n (tc sI sI) (opAreAlike σ a b)) := by
  obtain ⟨ρ, τ, hM, hA⟩ := hR
  obtain ⟨G0, hG0, eG0⟩ := hM.out
  refine sm_of pn_OverwalksModel rfl (Nat.le_of_ble_eq_true rfl) ?_
  rcases idxN 11 (by decide +kernel) a with qk1 | ⟨k, hk, rfl⟩
  · refine sw_aload_n (pc' := 1) rfl dX5_areAlike_0 rfl ?_
    refine sw_iload_n (pc' := 2) rfl dX5_areAlike_1 rfl ?_
    refine sw_S (M' := MX5_isNone) (d' := d - 1) (bc' := 0) (bs' := 0) (as := [_]) dX5_areAlike_2 w_1165 ok_X5_isNone (q_isNone (by omega)) (by omega) (Nat.le_of_ble_eq_true rfl) (Nat.zero_le _) (Nat.zero_le _) (fun E h' n' _ z => det_x z) (det_k ?_)
    rw [show inB a 0 10 = false from no_x (N := 10) (by decide +kernel) qk1]
    show SW _ _ _ _ _ _ _ (.int 1 :: _) _ _ _
    refine sw_if_ne (pc' := 8) (tgt := 15) rfl dX5_areAlike_5 (by decide +kernel) (fun c5 => ?_) (fun c5 => ?_)
    · refine sw_iconst (pc' := 16) (v := 1) rfl dX5_areAlike_15 (by decide +kernel) ?_
      refine sw_goto (tgt := 20) dX5_areAlike_16 (by decide +kernel) ?_
      refine sw_V (M' := MX5_isStopped__) (d' := d - 1) (bc' := 0) (bs' := 0) (ci := 6) (as := [_]) dX5_areAlike_20 w_1235 ok_X5_isStopped__ (q_isStopped1 (a := true) hM hA (by omega)) hM.ob rfl (by omega) (Nat.le_of_ble_eq_true rfl) (Nat.zero_le _) (Nat.zero_le _) (fun E h' n' _ z => rp_x z) (rp_k (fun p20 p20ρ p20τ p20M p20A p20F => ?_))
      obtain ⟨Gp20, hGp20, eGp20⟩ := p20M.out
      show SW _ _ _ _ _ _ _ (.int 1 :: _) _ _ _
      refine sw_if_eq (pc' := 26) (tgt := 28) rfl dX5_areAlike_23 (by decide +kernel) (fun c23 => ?_) (fun c23 => ?_)
      · exact absurd c23 (by decide +kernel)
      · refine sw_iconst (pc' := 27) (v := 0) rfl dX5_areAlike_26 (by decide +kernel) ?_
        refine sw_ret (v := some _) ⟨dX5_areAlike_27, _, rfl, rfl⟩ ?_
        rw [opAreAlike, onSh_x qk1]
        exact pm_x tc_1 p20M p20A p20F (Nat.le_refl _)
    · exact absurd c5 (by decide +kernel)
  have hck := hI.1 k hk
  rcases idxN 11 (by decide +kernel) b with qj1 | ⟨j, hj, rfl⟩
  · refine sw_aload_n (pc' := 1) rfl dX5_areAlike_0 rfl ?_
    refine sw_iload_n (pc' := 2) rfl dX5_areAlike_1 rfl ?_
    refine sw_S (M' := MX5_isNone) (d' := d - 1) (bc' := 0) (bs' := 0) (as := [_]) dX5_areAlike_2 w_1165 ok_X5_isNone (q_isNone (by omega)) (by omega) (Nat.le_of_ble_eq_true rfl) (Nat.zero_le _) (Nat.zero_le _) (fun E h' n' _ z => det_x z) (det_k ?_)
    rw [show inB (nI k) 0 10 = true from inB_k (N := 10) (by omega) (by decide +kernel)]
    show SW _ _ _ _ _ _ _ (.int 0 :: _) _ _ _
    refine sw_if_ne (pc' := 8) (tgt := 15) rfl dX5_areAlike_5 (by decide +kernel) (fun c5 => ?_) (fun c5 => ?_)
    · exact absurd c5 (by decide +kernel)
    · refine sw_iload_n (pc' := 9) rfl dX5_areAlike_8 rfl ?_
      refine sw_S (M' := MX5_isNone) (d' := d - 1) (bc' := 0) (bs' := 0) (as := [_]) dX5_areAlike_9 w_1165 ok_X5_isNone (q_isNone (by omega)) (by omega) (Nat.le_of_ble_eq_true rfl) (Nat.zero_le _) (Nat.zero_le _) (fun E h' n' _ z => det_x z) (det_k ?_)
      rw [show inB b 0 10 = false from no_x (N := 10) (by decide +kernel) qj1]
      show SW _ _ _ _ _ _ _ (.int 1 :: _) _ _ _
      refine sw_if_eq (pc' := 15) (tgt := 19) rfl dX5_areAlike_12 (by decide +kernel) (fun c12 => ?_) (fun c12 => ?_)
      · exact absurd c12 (by decide +kernel)
      · refine sw_iconst (pc' := 16) (v := 1) rfl dX5_areAlike_15 (by decide +kernel) ?_
        refine sw_goto (tgt := 20) dX5_areAlike_16 (by decide +kernel) ?_
        refine sw_V (M' := MX5_isStopped__) (d' := d - 1) (bc' := 0) (bs' := 0) (ci := 6) (as := [_]) dX5_areAlike_20 w_1235 ok_X5_isStopped__ (q_isStopped1 (a := true) hM hA (by omega)) hM.ob rfl (by omega) (Nat.le_of_ble_eq_true rfl) (Nat.zero_le _) (Nat.zero_le _) (fun E h' n' _ z => rp_x z) (rp_k (fun p20 p20ρ p20τ p20M p20A p20F => ?_))
        obtain ⟨Gp20, hGp20, eGp20⟩ := p20M.out
        show SW _ _ _ _ _ _ _ (.int 1 :: _) _ _ _
        refine sw_if_eq (pc' := 26) (tgt := 28) rfl dX5_areAlike_23 (by decide +kernel) (fun c23 => ?_) (fun c23 => ?_)
        · exact absurd c23 (by decide +kernel)
        · refine sw_iconst (pc' := 27) (v := 0) rfl dX5_areAlike_26 (by decide +kernel) ?_
          refine sw_ret (v := some _) ⟨dX5_areAlike_27, _, rfl, rfl⟩ ?_
          rw [opAreAlike, onSh_k hk, onSh_x qj1]
          exact pm_x tc_1 p20M p20A p20F (Nat.le_refl _)
  have hcj := hI.1 j hj
  refine sw_aload_n (pc' := 1) rfl dX5_areAlike_0 rfl ?_
  refine sw_iload_n (pc' := 2) rfl dX5_areAlike_1 rfl ?_
  refine sw_S (M' := MX5_isNone) (d' := d - 1) (bc' := 0) (bs' := 0) (as := [_]) dX5_areAlike_2 w_1165 ok_X5_isNone (q_isNone (by omega)) (by omega) (Nat.le_of_ble_eq_true rfl) (Nat.zero_le _) (Nat.zero_le _) (fun E h' n' _ z => det_x z) (det_k ?_)
  rw [show inB (nI k) 0 10 = true from inB_k (N := 10) (by omega) (by decide +kernel)]
  show SW _ _ _ _ _ _ _ (.int 0 :: _) _ _ _
  refine sw_if_ne (pc' := 8) (tgt := 15) rfl dX5_areAlike_5 (by decide +kernel) (fun c5 => ?_) (fun c5 => ?_)
  · exact absurd c5 (by decide +kernel)
  · refine sw_iload_n (pc' := 9) rfl dX5_areAlike_8 rfl ?_
    refine sw_S (M' := MX5_isNone) (d' := d - 1) (bc' := 0) (bs' := 0) (as := [_]) dX5_areAlike_9 w_1165 ok_X5_isNone (q_isNone (by omega)) (by omega) (Nat.le_of_ble_eq_true rfl) (Nat.zero_le _) (Nat.zero_le _) (fun E h' n' _ z => det_x z) (det_k ?_)
    rw [show inB (nI j) 0 10 = true from inB_k (N := 10) (by omega) (by decide +kernel)]
    show SW _ _ _ _ _ _ _ (.int 0 :: _) _ _ _
    refine sw_if_eq (pc' := 15) (tgt := 19) rfl dX5_areAlike_12 (by decide +kernel) (fun c12 => ?_) (fun c12 => ?_)
    · refine sw_iconst (pc' := 20) (v := 0) rfl dX5_areAlike_19 (by decide +kernel) ?_
      refine sw_V (M' := MX5_isStopped__) (d' := d - 1) (bc' := 0) (bs' := 0) (ci := 6) (as := [_]) dX5_areAlike_20 w_1235 ok_X5_isStopped__ (q_isStopped1 (a := false) hM hA (by omega)) hM.ob rfl (by omega) (Nat.le_of_ble_eq_true rfl) (Nat.zero_le _) (Nat.zero_le _) (fun E h' n' _ z => rp_x z) (rp_k (fun p20 p20ρ p20τ p20M p20A p20F => ?_))
      obtain ⟨Gp20, hGp20, eGp20⟩ := p20M.out
      show SW _ _ _ _ _ _ _ (.int 0 :: _) _ _ _
      refine sw_if_eq (pc' := 26) (tgt := 28) rfl dX5_areAlike_23 (by decide +kernel) (fun c23 => ?_) (fun c23 => ?_)
      · refine sw_aload_n (pc' := 29) rfl dX5_areAlike_28 rfl ?_
        refine sw_getf (ci := 6) (k := 4) (pc' := 32) rfl dX5_areAlike_29 (by decide +kernel) w_1117 p20M.ob rfl ?_
        refine sw_iload_n (pc' := 33) rfl dX5_areAlike_32 rfl ?_
        refine sw_iald (j := k) (pc' := 34) rfl dX5_areAlike_33 p20M.sz rfl (by omega) (by decide +kernel) ?_
        refine sw_aload_n (pc' := 35) rfl dX5_areAlike_34 rfl ?_
        refine sw_getf (ci := 6) (k := 4) (pc' := 38) rfl dX5_areAlike_35 (by decide +kernel) w_1117 p20M.ob rfl ?_
        refine sw_iload_n (pc' := 39) rfl dX5_areAlike_38 rfl ?_
        refine sw_iald (j := j) (pc' := 40) rfl dX5_areAlike_39 p20M.sz rfl (by omega) (by decide +kernel) ?_
        refine sw_icmp_ne (pc' := 43) (tgt := 47) rfl dX5_areAlike_40 (by decide +kernel) (fun c40 => ?_) (fun c40 => ?_)
        · refine sw_iconst (pc' := 48) (v := 0) rfl dX5_areAlike_47 (by decide +kernel) ?_
          refine sw_istore_n (pc' := 49) (lv' := [(3, _), (0, _), (1, _), (2, _)]) rfl dX5_areAlike_48 (by decide +kernel) rfl ?_
          refine sw_iconst (pc' := 50) (v := 0) rfl dX5_areAlike_49 (by decide +kernel) ?_
          refine sw_istore (pc' := 52) (lv' := [(4, _), (3, _), (0, _), (1, _), (2, _)]) rfl dX5_areAlike_50 (by decide +kernel) rfl ?_
          refine ql_areAlike p20M p20A hk hck hj (σ.2.1 k) 0 false (by omega) (fun e => by cases e) ?_
          rw [opAreAlike, onSh_k hk, onSh_k hj, hsB, decide_eq_false (fun g => c40 (by rw [g]))]
          exact pm_k p20M p20A p20F (Nat.le_refl _)
        · refine sw_iconst (pc' := 44) (v := 1) rfl dX5_areAlike_43 (by decide +kernel) ?_
          refine sw_goto (tgt := 48) dX5_areAlike_44 (by decide +kernel) ?_
          refine sw_istore_n (pc' := 49) (lv' := [(3, _), (0, _), (1, _), (2, _)]) rfl dX5_areAlike_48 (by decide +kernel) rfl ?_
          refine sw_iconst (pc' := 50) (v := 0) rfl dX5_areAlike_49 (by decide +kernel) ?_
          refine sw_istore (pc' := 52) (lv' := [(4, _), (3, _), (0, _), (1, _), (2, _)]) rfl dX5_areAlike_50 (by decide +kernel) rfl ?_
          refine ql_areAlike p20M p20A hk hck hj (σ.2.1 k) 0 true (by omega) (fun _ => (nI_eq (by omega) (by omega)).mp c40) ?_
          rw [opAreAlike, onSh_k hk, onSh_k hj, hsB, decide_eq_true ((nI_eq (by omega) (by omega)).mp c40)]
          exact pm_k p20M p20A p20F (Nat.le_refl _)
      · exact absurd c23 (by decide +kernel)
    · exact absurd c12 (by decide +kernel)
theorem ql_placeOf {h : AH} {d bc bs n : Nat} {ρ : Nat → Nat → Int32} {τ : Nat → Int32} {σ : CS} {th : Int32} {x y : Int32} {Post : ARes → AH → Nat → Prop} (hM : MM h ρ τ σ th) (hA : AG ρ τ σ) {k : Nat} (hk : k < 11) (hc : σ.2.1 k ≤ 12) (hy : ¬ y = 0) (fq : Post (.inl (some (.int (opI (lpN (σ.1 k) x (σ.2.1 k)))))) h n) (m : Nat) : ∀ (j : Nat), j + m = σ.2.1 k → SW SR0 MX5_placeOf d bc bs 28 [(5, .int (nI j)), (4, .int (fnd (σ.1 k) x (σ.2.1 k) j)), (0, .ref 135), (1, .int (nI k)), (2, .int x), (3, .int y)] [] h n Post := by
  obtain ⟨G0, hG0, eG0⟩ := hM.out
  induction m with
  | zero =>
    intro j hj
    have hjc : j = σ.2.1 k := by omega
    subst hjc
    rw [fnd_c]
    refine sw_iload_n (pc' := 29) rfl dX5_placeOf_28 rfl ?_
    refine sw_if_eq (pc' := 32) (tgt := 71) rfl dX5_placeOf_29 (by decide +kernel) (fun c29 => ?_) (fun c29 => ?_)
    · exact absurd c29 hy
    · refine sw_iload (pc' := 34) rfl dX5_placeOf_32 rfl ?_
      refine sw_aload_n (pc' := 35) rfl dX5_placeOf_34 rfl ?_
      refine sw_getf (ci := 6) (k := 4) (pc' := 38) rfl dX5_placeOf_35 (by decide +kernel) w_1117 hM.ob rfl ?_
      refine sw_iload_n (pc' := 39) rfl dX5_placeOf_38 rfl ?_
      refine sw_iald (j := k) (pc' := 40) rfl dX5_placeOf_39 hM.sz rfl (by omega) (by decide +kernel) ?_
      refine sw_icmp_ge (pc' := 43) (tgt := 71) rfl dX5_placeOf_40 (by decide +kernel) (fun c40 => ?_) (fun c40 => ?_)
      · refine sw_iload (pc' := 73) rfl dX5_placeOf_71 rfl ?_
        refine sw_ret (v := some _) ⟨dX5_placeOf_73, _, rfl, rfl⟩ ?_
        exact fq
      · exact absurd (Int32.le_refl _) c40
  | succ m ih =>
    intro j hj
    refine sw_iload_n (pc' := 29) rfl dX5_placeOf_28 rfl ?_
    refine sw_if_eq (pc' := 32) (tgt := 71) rfl dX5_placeOf_29 (by decide +kernel) (fun c29 => ?_) (fun c29 => ?_)
    · exact absurd c29 hy
    · refine sw_iload (pc' := 34) rfl dX5_placeOf_32 rfl ?_
      refine sw_aload_n (pc' := 35) rfl dX5_placeOf_34 rfl ?_
      refine sw_getf (ci := 6) (k := 4) (pc' := 38) rfl dX5_placeOf_35 (by decide +kernel) w_1117 hM.ob rfl ?_
      refine sw_iload_n (pc' := 39) rfl dX5_placeOf_38 rfl ?_
      refine sw_iald (j := k) (pc' := 40) rfl dX5_placeOf_39 hM.sz rfl (by omega) (by decide +kernel) ?_
      refine sw_icmp_ge (pc' := 43) (tgt := 71) rfl dX5_placeOf_40 (by decide +kernel) (fun c40 => ?_) (fun c40 => ?_)
      · exact absurd c40 (nI_ge (by omega) (by omega))
      · refine sw_aload_n (pc' := 44) rfl dX5_placeOf_43 rfl ?_
        refine sw_getf (ci := 6) (k := 3) (pc' := 47) rfl dX5_placeOf_44 (by decide +kernel) w_1116 hM.ob rfl ?_
        refine sw_iload_n (pc' := 48) rfl dX5_placeOf_47 rfl ?_
        refine sw_aald (j := k) (pc' := 49) rfl dX5_placeOf_48 hG0 (by decide +kernel) (by decide +kernel) rfl (by omega) (by decide +kernel) (eG0 k (by omega)) ?_
        refine sw_iload (pc' := 51) rfl dX5_placeOf_49 rfl ?_
        refine sw_iald (j := j) (pc' := 52) rfl dX5_placeOf_51 (hM.row (k := k) (by omega)) rfl (by omega) (by decide +kernel) ?_
        rw [hA.1 k (by omega) j (by omega)]
        refine sw_iload_n (pc' := 53) rfl dX5_placeOf_52 rfl ?_
        refine sw_icmp_ne (pc' := 56) (tgt := 61) rfl dX5_placeOf_53 (by decide +kernel) (fun c53 => ?_) (fun c53 => ?_)
        · refine sw_iload (pc' := 63) rfl dX5_placeOf_61 rfl ?_
          refine sw_istore (pc' := 65) (lv' := [(4, _), (5, _), (0, _), (1, _), (2, _), (3, _)]) rfl dX5_placeOf_63 (by decide +kernel) rfl ?_
          refine sw_iinc (pc' := 68) (lv' := [(5, _), (4, _), (0, _), (1, _), (2, _), (3, _)]) (v := nI (j + 1)) rfl dX5_placeOf_65 rfl (nI_1 j) (by decide +kernel) rfl ?_
          refine sw_goto (tgt := 28) dX5_placeOf_68 (by decide +kernel) ?_
          have g := ih (j + 1) (by omega)
          rw [fnd_s, if_neg c53] at g
          exact g
        · refine sw_iload (pc' := 58) rfl dX5_placeOf_56 rfl ?_
          refine sw_goto (tgt := 63) dX5_placeOf_58 (by decide +kernel) ?_
          refine sw_istore (pc' := 65) (lv' := [(4, _), (5, _), (0, _), (1, _), (2, _), (3, _)]) rfl dX5_placeOf_63 (by decide +kernel) rfl ?_
          refine sw_iinc (pc' := 68) (lv' := [(5, _), (4, _), (0, _), (1, _), (2, _), (3, _)]) (v := nI (j + 1)) rfl dX5_placeOf_65 rfl (nI_1 j) (by decide +kernel) rfl ?_
          refine sw_goto (tgt := 28) dX5_placeOf_68 (by decide +kernel) ?_
          have g := ih (j + 1) (by omega)
          rw [fnd_s, if_pos c53] at g
          exact g
theorem q_placeOf {h : AH} {d bc bs n : Nat} {σ : CS} {th : Int32} {a x y : Int32} (hR : RMo h σ th) (hI : Iv σ) (hn : 159 ≤ n) (hd : 8 ≤ d) (h1 : 1 ≤ bc) (h2 : 12 ≤ bs)  : SM SR0 MX5_placeOf d bc bs [.ref 135, .int a, .int x, .int y] h n (PM h n (tc sI sA) (opPlaceOf σ a x y)) := by
  obtain ⟨ρ, τ, hM, hA⟩ := hR
  obtain ⟨G0, hG0, eG0⟩ := hM.out
  refine sm_of pn_OverwalksModel rfl (Nat.le_of_ble_eq_true rfl) ?_
  rcases idxN 11 (by decide +kernel) a with qk1 | ⟨k, hk, rfl⟩
  · refine sw_aload_n (pc' := 1) rfl dX5_placeOf_0 rfl ?_
    refine sw_iload_n (pc' := 2) rfl dX5_placeOf_1 rfl ?_
    refine sw_S (M' := MX5_isNoRow) (d' := d - 1) (bc' := 0) (bs' := 0) (as := [_]) dX5_placeOf_2 w_1267 ok_X5_isNoRow (q_isNoRow (by omega)) (by omega) (Nat.le_of_ble_eq_true rfl) (Nat.zero_le _) (Nat.zero_le _) (fun E h' n' _ z => det_x z) (det_k ?_)
    rw [show nrB a = true from nrB_x qk1]
    show SW _ _ _ _ _ _ _ (.int 1 :: _) _ _ _
    refine sw_iload_n (pc' := 6) rfl dX5_placeOf_5 rfl ?_
    refine sw_S (M' := MX5_isNoThing) (d' := d - 1) (bc' := 0) (bs' := 0) (as := [_]) dX5_placeOf_6 w_1171 ok_X5_isNoThing (q_isNoThing (by omega)) (by omega) (Nat.le_of_ble_eq_true rfl) (Nat.zero_le _) (Nat.zero_le _) (fun E h' n' _ z => det_x z) (det_k ?_)
    refine sw_V (M' := MX5_isStopped_) (d' := d - 1) (bc' := 0) (bs' := 0) (ci := 6) (as := [_, _]) dX5_placeOf_9 w_1215 ok_X5_isStopped_ (q_isStopped2 (a := true) (b := (!inB x 0 100)) hM hA (by omega)) hM.ob rfl (by omega) (Nat.le_of_ble_eq_true rfl) (Nat.zero_le _) (Nat.zero_le _) (fun E h' n' _ z => rp_x z) (rp_k (fun p9 p9ρ p9τ p9M p9A p9F => ?_))
    obtain ⟨Gp9, hGp9, eGp9⟩ := p9M.out
    show SW _ _ _ _ _ _ _ (.int 1 :: _) _ _ _
    refine sw_if_eq (pc' := 15) (tgt := 17) rfl dX5_placeOf_12 (by decide +kernel) (fun c12 => ?_) (fun c12 => ?_)
    · exact absurd c12 (by decide +kernel)
    · refine sw_iconst (pc' := 16) (v := 0) rfl dX5_placeOf_15 (by decide +kernel) ?_
      refine sw_ret (v := some _) ⟨dX5_placeOf_16, _, rfl, rfl⟩ ?_
      rw [opPlaceOf, onRw_x qk1]
      exact pm_x tc_1 p9M p9A p9F (Nat.le_refl _)
  rcases Classical.em (kP (kdO k) = false) with qk | qk
  · refine sw_aload_n (pc' := 1) rfl dX5_placeOf_0 rfl ?_
    refine sw_iload_n (pc' := 2) rfl dX5_placeOf_1 rfl ?_
    refine sw_S (M' := MX5_isNoRow) (d' := d - 1) (bc' := 0) (bs' := 0) (as := [_]) dX5_placeOf_2 w_1267 ok_X5_isNoRow (q_isNoRow (by omega)) (by omega) (Nat.le_of_ble_eq_true rfl) (Nat.zero_le _) (Nat.zero_le _) (fun E h' n' _ z => det_x z) (det_k ?_)
    rw [show nrB (nI k) = true from nrB_y hk qk]
    show SW _ _ _ _ _ _ _ (.int 1 :: _) _ _ _
    refine sw_iload_n (pc' := 6) rfl dX5_placeOf_5 rfl ?_
    refine sw_S (M' := MX5_isNoThing) (d' := d - 1) (bc' := 0) (bs' := 0) (as := [_]) dX5_placeOf_6 w_1171 ok_X5_isNoThing (q_isNoThing (by omega)) (by omega) (Nat.le_of_ble_eq_true rfl) (Nat.zero_le _) (Nat.zero_le _) (fun E h' n' _ z => det_x z) (det_k ?_)
    refine sw_V (M' := MX5_isStopped_) (d' := d - 1) (bc' := 0) (bs' := 0) (ci := 6) (as := [_, _]) dX5_placeOf_9 w_1215 ok_X5_isStopped_ (q_isStopped2 (a := true) (b := (!inB x 0 100)) hM hA (by omega)) hM.ob rfl (by omega) (Nat.le_of_ble_eq_true rfl) (Nat.zero_le _) (Nat.zero_le _) (fun E h' n' _ z => rp_x z) (rp_k (fun p9 p9ρ p9τ p9M p9A p9F => ?_))
    obtain ⟨Gp9, hGp9, eGp9⟩ := p9M.out
    show SW _ _ _ _ _ _ _ (.int 1 :: _) _ _ _
    refine sw_if_eq (pc' := 15) (tgt := 17) rfl dX5_placeOf_12 (by decide +kernel) (fun c12 => ?_) (fun c12 => ?_)
    · exact absurd c12 (by decide +kernel)
    · refine sw_iconst (pc' := 16) (v := 0) rfl dX5_placeOf_15 (by decide +kernel) ?_
      refine sw_ret (v := some _) ⟨dX5_placeOf_16, _, rfl, rfl⟩ ?_
      rw [opPlaceOf, onRw_y hk qk]
      exact pm_x tc_1 p9M p9A p9F (Nat.le_refl _)
  have hck := hI.1 k hk
  rcases Classical.em (x < 0 ∨ 100 < x) with qx | qx
  · refine sw_aload_n (pc' := 1) rfl dX5_placeOf_0 rfl ?_
    refine sw_iload_n (pc' := 2) rfl dX5_placeOf_1 rfl ?_
    refine sw_S (M' := MX5_isNoRow) (d' := d - 1) (bc' := 0) (bs' := 0) (as := [_]) dX5_placeOf_2 w_1267 ok_X5_isNoRow (q_isNoRow (by omega)) (by omega) (Nat.le_of_ble_eq_true rfl) (Nat.zero_le _) (Nat.zero_le _) (fun E h' n' _ z => det_x z) (det_k ?_)
    rw [show nrB (nI k) = false from nrB_k hk qk]
    show SW _ _ _ _ _ _ _ (.int 0 :: _) _ _ _
    refine sw_iload_n (pc' := 6) rfl dX5_placeOf_5 rfl ?_
    refine sw_S (M' := MX5_isNoThing) (d' := d - 1) (bc' := 0) (bs' := 0) (as := [_]) dX5_placeOf_6 w_1171 ok_X5_isNoThing (q_isNoThing (by omega)) (by omega) (Nat.le_of_ble_eq_true rfl) (Nat.zero_le _) (Nat.zero_le _) (fun E h' n' _ z => det_x z) (det_k ?_)
    rw [show inB x 0 100 = false from inB_x qx]
    show SW _ _ _ _ _ _ _ (.int 1 :: _) _ _ _
    refine sw_V (M' := MX5_isStopped_) (d' := d - 1) (bc' := 0) (bs' := 0) (ci := 6) (as := [_, _]) dX5_placeOf_9 w_1215 ok_X5_isStopped_ (q_isStopped2 (a := false) (b := true) hM hA (by omega)) hM.ob rfl (by omega) (Nat.le_of_ble_eq_true rfl) (Nat.zero_le _) (Nat.zero_le _) (fun E h' n' _ z => rp_x z) (rp_k (fun p9 p9ρ p9τ p9M p9A p9F => ?_))
    obtain ⟨Gp9, hGp9, eGp9⟩ := p9M.out
    show SW _ _ _ _ _ _ _ (.int 1 :: _) _ _ _
    refine sw_if_eq (pc' := 15) (tgt := 17) rfl dX5_placeOf_12 (by decide +kernel) (fun c12 => ?_) (fun c12 => ?_)
    · exact absurd c12 (by decide +kernel)
    · refine sw_iconst (pc' := 16) (v := 0) rfl dX5_placeOf_15 (by decide +kernel) ?_
      refine sw_ret (v := some _) ⟨dX5_placeOf_16, _, rfl, rfl⟩ ?_
      rw [opPlaceOf, onRw_k hk qk, if_pos qx]
      exact pm_x (tc_2 sAI) p9M p9A p9F (Nat.le_refl _)
  refine sw_aload_n (pc' := 1) rfl dX5_placeOf_0 rfl ?_
  refine sw_iload_n (pc' := 2) rfl dX5_placeOf_1 rfl ?_
  refine sw_S (M' := MX5_isNoRow) (d' := d - 1) (bc' := 0) (bs' := 0) (as := [_]) dX5_placeOf_2 w_1267 ok_X5_isNoRow (q_isNoRow (by omega)) (by omega) (Nat.le_of_ble_eq_true rfl) (Nat.zero_le _) (Nat.zero_le _) (fun E h' n' _ z => det_x z) (det_k ?_)
  rw [show nrB (nI k) = false from nrB_k hk qk]
  show SW _ _ _ _ _ _ _ (.int 0 :: _) _ _ _
  refine sw_iload_n (pc' := 6) rfl dX5_placeOf_5 rfl ?_
  refine sw_S (M' := MX5_isNoThing) (d' := d - 1) (bc' := 0) (bs' := 0) (as := [_]) dX5_placeOf_6 w_1171 ok_X5_isNoThing (q_isNoThing (by omega)) (by omega) (Nat.le_of_ble_eq_true rfl) (Nat.zero_le _) (Nat.zero_le _) (fun E h' n' _ z => det_x z) (det_k ?_)
  rw [show inB x 0 100 = true from inB_n qx]
  show SW _ _ _ _ _ _ _ (.int 0 :: _) _ _ _
  refine sw_V (M' := MX5_isStopped_) (d' := d - 1) (bc' := 0) (bs' := 0) (ci := 6) (as := [_, _]) dX5_placeOf_9 w_1215 ok_X5_isStopped_ (q_isStopped2 (a := false) (b := false) hM hA (by omega)) hM.ob rfl (by omega) (Nat.le_of_ble_eq_true rfl) (Nat.zero_le _) (Nat.zero_le _) (fun E h' n' _ z => rp_x z) (rp_k (fun p9 p9ρ p9τ p9M p9A p9F => ?_))
  obtain ⟨Gp9, hGp9, eGp9⟩ := p9M.out
  show SW _ _ _ _ _ _ _ (.int 0 :: _) _ _ _
  refine sw_if_eq (pc' := 15) (tgt := 17) rfl dX5_placeOf_12 (by decide +kernel) (fun c12 => ?_) (fun c12 => ?_)
  · refine sw_aload_n (pc' := 18) rfl dX5_placeOf_17 rfl ?_
    refine sw_iload_n (pc' := 19) rfl dX5_placeOf_18 rfl ?_
    refine sw_iload_n (pc' := 20) rfl dX5_placeOf_19 rfl ?_
    refine sw_V (M' := MX5_firstPlace) (d' := d - 1) (bc' := 0) (bs' := 0) (ci := 6) (as := [_, _]) dX5_placeOf_20 w_1219 ok_X5_firstPlace (q_firstPlace p9M p9A (k := k) (by omega) (hI.1 k (by omega))) p9M.ob rfl (by omega) (Nat.le_of_ble_eq_true rfl) (Nat.zero_le _) (Nat.zero_le _) (fun E h' n' _ z => det_x z) (det_k ?_)
    refine sw_istore (pc' := 25) (lv' := [(4, _), (0, _), (1, _), (2, _), (3, _)]) rfl dX5_placeOf_23 (by decide +kernel) rfl ?_
    refine sw_iconst (pc' := 26) (v := 0) rfl dX5_placeOf_25 (by decide +kernel) ?_
    refine sw_istore (pc' := 28) (lv' := [(5, _), (4, _), (0, _), (1, _), (2, _), (3, _)]) rfl dX5_placeOf_26 (by decide +kernel) rfl ?_
    rcases Classical.em (y = 0) with qy | qy
    · refine sw_iload_n (pc' := 29) rfl dX5_placeOf_28 rfl ?_
      refine sw_if_eq (pc' := 32) (tgt := 71) rfl dX5_placeOf_29 (by decide +kernel) (fun c29 => ?_) (fun c29 => ?_)
      · refine sw_iload (pc' := 73) rfl dX5_placeOf_71 rfl ?_
        refine sw_ret (v := some _) ⟨dX5_placeOf_73, _, rfl, rfl⟩ ?_
        rw [opPlaceOf, onRw_k hk qk, if_neg qx, if_pos qy]
        exact pm_k p9M p9A p9F (Nat.le_refl _)
      · exact absurd qy c29
    refine ql_placeOf p9M p9A hk hck qy ?_ (σ.2.1 k) 0 (by omega)
    rw [opPlaceOf, onRw_k hk qk, if_neg qx, if_neg qy]
    exact pm_k p9M p9A p9F (Nat.le_refl _)
  · exact absurd c12 (by decide +kernel)
theorem ql_disjoint {h : AH} {d bc bs n : Nat} {ρ : Nat → Nat → Int32} {τ : Nat → Int32} {σ : CS} {th : Int32} {Post : ARes → AH → Nat → Prop} (hM : MM h ρ τ σ th) (hA : AG ρ τ σ) {k : Nat} (hk : k < 11) (hc : σ.2.1 k ≤ 12) {l : Nat} (hl : l < 11) (hcl : σ.2.1 l ≤ 12) (hd : 2 ≤ d) (m : Nat) : ∀ (j : Nat) (w : Bool), j + m = σ.2.1 k → Post (.inl (some (.int (bI (w && djB σ k l j m))))) h n → SW SR0 MX5_disjoint d bc bs 68 [(4, .int (nI j)), (3, .int (bI w)), (0, .ref 135), (1, .int (nI k)), (2, .int (nI l))] [] h n Post := by
  obtain ⟨G0, hG0, eG0⟩ := hM.out
  induction m with
  | zero =>
    intro j w hj fq
    rw [show djB σ k l j 0 = true from rfl, Bool.and_true] at fq
    have hjc : j = σ.2.1 k := by omega
    subst hjc
    refine sw_iload (pc' := 70) rfl dX5_disjoint_68 rfl ?_
    refine sw_aload_n (pc' := 71) rfl dX5_disjoint_70 rfl ?_
    refine sw_getf (ci := 6) (k := 4) (pc' := 74) rfl dX5_disjoint_71 (by decide +kernel) w_1117 hM.ob rfl ?_
    refine sw_iload_n (pc' := 75) rfl dX5_disjoint_74 rfl ?_
    refine sw_iald (j := k) (pc' := 76) rfl dX5_disjoint_75 hM.sz rfl (by omega) (by decide +kernel) ?_
    refine sw_icmp_ge (pc' := 79) (tgt := 110) rfl dX5_disjoint_76 (by decide +kernel) (fun c76 => ?_) (fun c76 => ?_)
    · refine sw_iload_n (pc' := 111) rfl dX5_disjoint_110 rfl ?_
      refine sw_S (M' := MX5_one) (d' := d - 1) (bc' := 0) (bs' := 0) (as := [_]) dX5_disjoint_111 w_1196 ok_X5_one (q_one (q := w)) (by omega) (Nat.le_of_ble_eq_true rfl) (Nat.zero_le _) (Nat.zero_le _) (fun E h' n' _ z => det_x z) (det_k ?_)
      refine sw_ret (v := some _) ⟨dX5_disjoint_114, _, rfl, rfl⟩ ?_
      exact fq
    · exact absurd (Int32.le_refl _) c76
  | succ m ih =>
    intro j w hj fq
    rw [djB, ← Bool.and_assoc] at fq
    refine sw_iload (pc' := 70) rfl dX5_disjoint_68 rfl ?_
    refine sw_aload_n (pc' := 71) rfl dX5_disjoint_70 rfl ?_
    refine sw_getf (ci := 6) (k := 4) (pc' := 74) rfl dX5_disjoint_71 (by decide +kernel) w_1117 hM.ob rfl ?_
    refine sw_iload_n (pc' := 75) rfl dX5_disjoint_74 rfl ?_
    refine sw_iald (j := k) (pc' := 76) rfl dX5_disjoint_75 hM.sz rfl (by omega) (by decide +kernel) ?_
    refine sw_icmp_ge (pc' := 79) (tgt := 110) rfl dX5_disjoint_76 (by decide +kernel) (fun c76 => ?_) (fun c76 => ?_)
    · exact absurd c76 (nI_ge (by omega) (by omega))
    · refine sw_iload_n (pc' := 80) rfl dX5_disjoint_79 rfl ?_
      refine sw_aload_n (pc' := 81) rfl dX5_disjoint_80 rfl ?_
      refine sw_iload_n (pc' := 82) rfl dX5_disjoint_81 rfl ?_
      refine sw_aload_n (pc' := 83) rfl dX5_disjoint_82 rfl ?_
      refine sw_getf (ci := 6) (k := 3) (pc' := 86) rfl dX5_disjoint_83 (by decide +kernel) w_1116 hM.ob rfl ?_
      refine sw_iload_n (pc' := 87) rfl dX5_disjoint_86 rfl ?_
      refine sw_aald (j := k) (pc' := 88) rfl dX5_disjoint_87 hG0 (by decide +kernel) (by decide +kernel) rfl (by omega) (by decide +kernel) (eG0 k (by omega)) ?_
      refine sw_iload (pc' := 90) rfl dX5_disjoint_88 rfl ?_
      refine sw_iald (j := j) (pc' := 91) rfl dX5_disjoint_90 (hM.row (k := k) (by omega)) rfl (by omega) (by decide +kernel) ?_
      rw [hA.1 k (by omega) j (by omega)]
      refine sw_V (M' := MX5_count) (d' := d - 1) (bc' := 0) (bs' := 0) (ci := 6) (as := [_, _]) dX5_disjoint_91 w_1192 ok_X5_count (q_count hM hA hl hcl (by omega)) hM.ob rfl (by omega) (Nat.le_of_ble_eq_true rfl) (Nat.zero_le _) (Nat.zero_le _) (fun E h' n' _ z => det_x z) (det_k ?_)
      have hb := coN_le (f := σ.1 l) (x := σ.1 k j) (m := σ.2.1 l) (j := 0)
      refine sw_if_ne (pc' := 97) (tgt := 101) rfl dX5_disjoint_94 (by decide +kernel) (fun c94 => ?_) (fun c94 => ?_)
      · refine sw_iconst (pc' := 102) (v := 0) rfl dX5_disjoint_101 (by decide +kernel) ?_
        refine sw_iand (pc' := 103) rfl dX5_disjoint_102 ?_
        rw [show bI w &&& 0 = bI (w && false) from bI_and (b := false)]
        refine sw_istore_n (pc' := 104) (lv' := [(3, _), (4, _), (0, _), (1, _), (2, _)]) rfl dX5_disjoint_103 (by decide +kernel) rfl ?_
        refine sw_iinc (pc' := 107) (lv' := [(4, _), (3, _), (0, _), (1, _), (2, _)]) (v := nI (j + 1)) rfl dX5_disjoint_104 rfl (nI_1 j) (by decide +kernel) rfl ?_
        refine sw_goto (tgt := 68) dX5_disjoint_107 (by decide +kernel) ?_
        refine ih (j + 1) (w && false) (by omega) ?_
        rw [fp_of_co1 (Nat.pos_of_ne_zero (fun g => c94 (by rw [g]; rfl)))] at fq
        exact fq
      · refine sw_iconst (pc' := 98) (v := 1) rfl dX5_disjoint_97 (by decide +kernel) ?_
        refine sw_goto (tgt := 102) dX5_disjoint_98 (by decide +kernel) ?_
        refine sw_iand (pc' := 103) rfl dX5_disjoint_102 ?_
        rw [show bI w &&& 1 = bI (w && true) from bI_and (b := true)]
        refine sw_istore_n (pc' := 104) (lv' := [(3, _), (4, _), (0, _), (1, _), (2, _)]) rfl dX5_disjoint_103 (by decide +kernel) rfl ?_
        refine sw_iinc (pc' := 107) (lv' := [(4, _), (3, _), (0, _), (1, _), (2, _)]) (v := nI (j + 1)) rfl dX5_disjoint_104 rfl (nI_1 j) (by decide +kernel) rfl ?_
        refine sw_goto (tgt := 68) dX5_disjoint_107 (by decide +kernel) ?_
        refine ih (j + 1) (w && true) (by omega) ?_
        have ec := (nI_eq (b := 0) (by omega) (by decide +kernel)).mp c94
        rw [fp_of_co (by omega)] at fq
        exact fq
theorem q_disjoint {h : AH} {d bc bs n : Nat} {σ : CS} {th : Int32} {a b : Int32} (hR : RMo h σ th) (hI : Iv σ) (hn : 159 ≤ n) (hd : 8 ≤ d) (h1 : 1 ≤ bc) (h2 : 12 ≤ bs)  : SM SR0 MX5_disjoint d bc bs [.ref 135, .int a, .int b] h n (PM h n (tc sI sI) (opDisjoint σ a b)) := by
  obtain ⟨ρ, τ, hM, hA⟩ := hR
  obtain ⟨G0, hG0, eG0⟩ := hM.out
  refine sm_of pn_OverwalksModel rfl (Nat.le_of_ble_eq_true rfl) ?_
  rcases idxN 11 (by decide +kernel) a with qk1 | ⟨k, hk, rfl⟩
  · refine sw_aload_n (pc' := 1) rfl dX5_disjoint_0 rfl ?_
    refine sw_iload_n (pc' := 2) rfl dX5_disjoint_1 rfl ?_
    refine sw_S (M' := MX5_isNone) (d' := d - 1) (bc' := 0) (bs' := 0) (as := [_]) dX5_disjoint_2 w_1165 ok_X5_isNone (q_isNone (by omega)) (by omega) (Nat.le_of_ble_eq_true rfl) (Nat.zero_le _) (Nat.zero_le _) (fun E h' n' _ z => det_x z) (det_k ?_)
    rw [show inB a 0 10 = false from no_x (N := 10) (by decide +kernel) qk1]
    show SW _ _ _ _ _ _ _ (.int 1 :: _) _ _ _
    refine sw_if_ne (pc' := 8) (tgt := 15) rfl dX5_disjoint_5 (by decide +kernel) (fun c5 => ?_) (fun c5 => ?_)
    · refine sw_iconst (pc' := 16) (v := 1) rfl dX5_disjoint_15 (by decide +kernel) ?_
      refine sw_goto (tgt := 20) dX5_disjoint_16 (by decide +kernel) ?_
      refine sw_V (M' := MX5_isStopped__) (d' := d - 1) (bc' := 0) (bs' := 0) (ci := 6) (as := [_]) dX5_disjoint_20 w_1235 ok_X5_isStopped__ (q_isStopped1 (a := true) hM hA (by omega)) hM.ob rfl (by omega) (Nat.le_of_ble_eq_true rfl) (Nat.zero_le _) (Nat.zero_le _) (fun E h' n' _ z => rp_x z) (rp_k (fun p20 p20ρ p20τ p20M p20A p20F => ?_))
      obtain ⟨Gp20, hGp20, eGp20⟩ := p20M.out
      show SW _ _ _ _ _ _ _ (.int 1 :: _) _ _ _
      refine sw_if_eq (pc' := 26) (tgt := 28) rfl dX5_disjoint_23 (by decide +kernel) (fun c23 => ?_) (fun c23 => ?_)
      · exact absurd c23 (by decide +kernel)
      · refine sw_iconst (pc' := 27) (v := 0) rfl dX5_disjoint_26 (by decide +kernel) ?_
        refine sw_ret (v := some _) ⟨dX5_disjoint_27, _, rfl, rfl⟩ ?_
        rw [opDisjoint, onSh_x qk1]
        exact pm_x tc_1 p20M p20A p20F (Nat.le_refl _)
    · exact absurd c5 (by decide +kernel)
  have hck := hI.1 k hk
  rcases idxN 11 (by decide +kernel) b with qj1 | ⟨j, hj, rfl⟩
  · refine sw_aload_n (pc' := 1) rfl dX5_disjoint_0 rfl ?_
    refine sw_iload_n (pc' := 2) rfl dX5_disjoint_1 rfl ?_
    refine sw_S (M' := MX5_isNone) (d' := d - 1) (bc' := 0) (bs' := 0) (as := [_]) dX5_disjoint_2 w_1165 ok_X5_isNone (q_isNone (by omega)) (by omega) (Nat.le_of_ble_eq_true rfl) (Nat.zero_le _) (Nat.zero_le _) (fun E h' n' _ z => det_x z) (det_k ?_)
    rw [show inB (nI k) 0 10 = true from inB_k (N := 10) (by omega) (by decide +kernel)]
    show SW _ _ _ _ _ _ _ (.int 0 :: _) _ _ _
    refine sw_if_ne (pc' := 8) (tgt := 15) rfl dX5_disjoint_5 (by decide +kernel) (fun c5 => ?_) (fun c5 => ?_)
    · exact absurd c5 (by decide +kernel)
    · refine sw_iload_n (pc' := 9) rfl dX5_disjoint_8 rfl ?_
      refine sw_S (M' := MX5_isNone) (d' := d - 1) (bc' := 0) (bs' := 0) (as := [_]) dX5_disjoint_9 w_1165 ok_X5_isNone (q_isNone (by omega)) (by omega) (Nat.le_of_ble_eq_true rfl) (Nat.zero_le _) (Nat.zero_le _) (fun E h' n' _ z => det_x z) (det_k ?_)
      rw [show inB b 0 10 = false from no_x (N := 10) (by decide +kernel) qj1]
      show SW _ _ _ _ _ _ _ (.int 1 :: _) _ _ _
      refine sw_if_eq (pc' := 15) (tgt := 19) rfl dX5_disjoint_12 (by decide +kernel) (fun c12 => ?_) (fun c12 => ?_)
      · exact absurd c12 (by decide +kernel)
      · refine sw_iconst (pc' := 16) (v := 1) rfl dX5_disjoint_15 (by decide +kernel) ?_
        refine sw_goto (tgt := 20) dX5_disjoint_16 (by decide +kernel) ?_
        refine sw_V (M' := MX5_isStopped__) (d' := d - 1) (bc' := 0) (bs' := 0) (ci := 6) (as := [_]) dX5_disjoint_20 w_1235 ok_X5_isStopped__ (q_isStopped1 (a := true) hM hA (by omega)) hM.ob rfl (by omega) (Nat.le_of_ble_eq_true rfl) (Nat.zero_le _) (Nat.zero_le _) (fun E h' n' _ z => rp_x z) (rp_k (fun p20 p20ρ p20τ p20M p20A p20F => ?_))
        obtain ⟨Gp20, hGp20, eGp20⟩ := p20M.out
        show SW _ _ _ _ _ _ _ (.int 1 :: _) _ _ _
        refine sw_if_eq (pc' := 26) (tgt := 28) rfl dX5_disjoint_23 (by decide +kernel) (fun c23 => ?_) (fun c23 => ?_)
        · exact absurd c23 (by decide +kernel)
        · refine sw_iconst (pc' := 27) (v := 0) rfl dX5_disjoint_26 (by decide +kernel) ?_
          refine sw_ret (v := some _) ⟨dX5_disjoint_27, _, rfl, rfl⟩ ?_
          rw [opDisjoint, onSh_k hk, onSh_x qj1]
          exact pm_x tc_1 p20M p20A p20F (Nat.le_refl _)
  have hcj := hI.1 j hj
  refine sw_aload_n (pc' := 1) rfl dX5_disjoint_0 rfl ?_
  refine sw_iload_n (pc' := 2) rfl dX5_disjoint_1 rfl ?_
  refine sw_S (M' := MX5_isNone) (d' := d - 1) (bc' := 0) (bs' := 0) (as := [_]) dX5_disjoint_2 w_1165 ok_X5_isNone (q_isNone (by omega)) (by omega) (Nat.le_of_ble_eq_true rfl) (Nat.zero_le _) (Nat.zero_le _) (fun E h' n' _ z => det_x z) (det_k ?_)
  rw [show inB (nI k) 0 10 = true from inB_k (N := 10) (by omega) (by decide +kernel)]
  show SW _ _ _ _ _ _ _ (.int 0 :: _) _ _ _
  refine sw_if_ne (pc' := 8) (tgt := 15) rfl dX5_disjoint_5 (by decide +kernel) (fun c5 => ?_) (fun c5 => ?_)
  · exact absurd c5 (by decide +kernel)
  · refine sw_iload_n (pc' := 9) rfl dX5_disjoint_8 rfl ?_
    refine sw_S (M' := MX5_isNone) (d' := d - 1) (bc' := 0) (bs' := 0) (as := [_]) dX5_disjoint_9 w_1165 ok_X5_isNone (q_isNone (by omega)) (by omega) (Nat.le_of_ble_eq_true rfl) (Nat.zero_le _) (Nat.zero_le _) (fun E h' n' _ z => det_x z) (det_k ?_)
    rw [show inB (nI j) 0 10 = true from inB_k (N := 10) (by omega) (by decide +kernel)]
    show SW _ _ _ _ _ _ _ (.int 0 :: _) _ _ _
    refine sw_if_eq (pc' := 15) (tgt := 19) rfl dX5_disjoint_12 (by decide +kernel) (fun c12 => ?_) (fun c12 => ?_)
    · refine sw_iconst (pc' := 20) (v := 0) rfl dX5_disjoint_19 (by decide +kernel) ?_
      refine sw_V (M' := MX5_isStopped__) (d' := d - 1) (bc' := 0) (bs' := 0) (ci := 6) (as := [_]) dX5_disjoint_20 w_1235 ok_X5_isStopped__ (q_isStopped1 (a := false) hM hA (by omega)) hM.ob rfl (by omega) (Nat.le_of_ble_eq_true rfl) (Nat.zero_le _) (Nat.zero_le _) (fun E h' n' _ z => rp_x z) (rp_k (fun p20 p20ρ p20τ p20M p20A p20F => ?_))
      obtain ⟨Gp20, hGp20, eGp20⟩ := p20M.out
      show SW _ _ _ _ _ _ _ (.int 0 :: _) _ _ _
      refine sw_if_eq (pc' := 26) (tgt := 28) rfl dX5_disjoint_23 (by decide +kernel) (fun c23 => ?_) (fun c23 => ?_)
      · refine sw_aload_n (pc' := 29) rfl dX5_disjoint_28 rfl ?_
        refine sw_iload_n (pc' := 30) rfl dX5_disjoint_29 rfl ?_
        refine sw_V (M' := MX5_hasNothing) (d' := d - 1) (bc' := 0) (bs' := 0) (ci := 6) (as := [_]) dX5_disjoint_30 w_1251 ok_X5_hasNothing (q_hasNothing p20M p20A (k := k) (by omega) (hI.1 k (by omega)) (by omega)) p20M.ob rfl (by omega) (Nat.le_of_ble_eq_true rfl) (Nat.zero_le _) (Nat.zero_le _) (fun E h' n' _ z => det_x z) (det_k ?_)
        refine sw_if_eq (pc' := 36) (tgt := 43) rfl dX5_disjoint_33 (by decide +kernel) (fun c33 => ?_) (fun c33 => ?_)
        · refine sw_aload_n (pc' := 44) rfl dX5_disjoint_43 rfl ?_
          refine sw_iload_n (pc' := 45) rfl dX5_disjoint_44 rfl ?_
          refine sw_V (M' := MX5_hasNothing) (d' := d - 1) (bc' := 0) (bs' := 0) (ci := 6) (as := [_]) dX5_disjoint_45 w_1251 ok_X5_hasNothing (q_hasNothing p20M p20A (k := j) (by omega) (hI.1 j (by omega)) (by omega)) p20M.ob rfl (by omega) (Nat.le_of_ble_eq_true rfl) (Nat.zero_le _) (Nat.zero_le _) (fun E h' n' _ z => det_x z) (det_k ?_)
          refine sw_if_eq (pc' := 51) (tgt := 63) rfl dX5_disjoint_48 (by decide +kernel) (fun c48 => ?_) (fun c48 => ?_)
          · refine sw_iconst (pc' := 64) (v := 1) rfl dX5_disjoint_63 (by decide +kernel) ?_
            refine sw_istore_n (pc' := 65) (lv' := [(3, _), (0, _), (1, _), (2, _)]) rfl dX5_disjoint_64 (by decide +kernel) rfl ?_
            refine sw_iconst (pc' := 66) (v := 0) rfl dX5_disjoint_65 (by decide +kernel) ?_
            refine sw_istore (pc' := 68) (lv' := [(4, _), (3, _), (0, _), (1, _), (2, _)]) rfl dX5_disjoint_66 (by decide +kernel) rfl ?_
            refine ql_disjoint p20M p20A hk hck hj hcj (by omega) (σ.2.1 k) 0 true (by omega) ?_
            rw [opDisjoint, onSh_k hk, onSh_k hj, if_neg (fun q => q.elim (fun e => Bool.noConfusion (e.symm.trans (nnB_f1 (bI_0 c33)))) (fun e => Bool.noConfusion (e.symm.trans (nnB_f1 (bI_0 c48)))))]
            exact pm_k p20M p20A p20F (Nat.le_refl _)
          · refine sw_iload_n (pc' := 52) rfl dX5_disjoint_51 rfl ?_
            refine sw_S (M' := MX5_takesNothing) (d' := d - 1) (bc' := 0) (bs' := 0) (as := [_]) dX5_disjoint_52 w_1181 ok_X5_takesNothing (q_takesNothing (by omega)) (by omega) (Nat.le_of_ble_eq_true rfl) (Nat.zero_le _) (Nat.zero_le _) (fun E h' n' _ z => det_x z) (det_k ?_)
            rw [tn_k (k := k) (by omega)]
            refine sw_if_ne (pc' := 58) (tgt := 63) rfl dX5_disjoint_55 (by decide +kernel) (fun c55 => ?_) (fun c55 => ?_)
            · refine sw_iconst (pc' := 64) (v := 1) rfl dX5_disjoint_63 (by decide +kernel) ?_
              refine sw_istore_n (pc' := 65) (lv' := [(3, _), (0, _), (1, _), (2, _)]) rfl dX5_disjoint_64 (by decide +kernel) rfl ?_
              refine sw_iconst (pc' := 66) (v := 0) rfl dX5_disjoint_65 (by decide +kernel) ?_
              refine sw_istore (pc' := 68) (lv' := [(4, _), (3, _), (0, _), (1, _), (2, _)]) rfl dX5_disjoint_66 (by decide +kernel) rfl ?_
              refine ql_disjoint p20M p20A hk hck hj hcj (by omega) (σ.2.1 k) 0 true (by omega) ?_
              rw [opDisjoint, onSh_k hk, onSh_k hj, if_neg (fun q => q.elim (fun e => Bool.noConfusion (e.symm.trans (nnB_f1 (bI_0 c33)))) (fun e => Bool.noConfusion (e.symm.trans (nnB_f2 (bI_1 c55)))))]
              exact pm_k p20M p20A p20F (Nat.le_refl _)
            · refine sw_aload_n (pc' := 59) rfl dX5_disjoint_58 rfl ?_
              refine sw_V (M' := MX5_no) (d' := d - 1) (bc' := 0) (bs' := 0) (ci := 6) (as := []) dX5_disjoint_59 w_1184 ok_X5_no (q_no p20M p20A) p20M.ob rfl (by omega) (Nat.le_of_ble_eq_true rfl) (Nat.zero_le _) (Nat.zero_le _) (fun E h' n' _ z => rp_x z) (rp_k (fun p59 p59ρ p59τ p59M p59A p59F => ?_))
              obtain ⟨Gp59, hGp59, eGp59⟩ := p59M.out
              refine sw_ret (v := some _) ⟨dX5_disjoint_62, _, rfl, rfl⟩ ?_
              rw [opDisjoint, onSh_k hk, onSh_k hj, if_pos (Or.inr (nnB_t (bI_1 c48) (bI_0 c55)))]
              exact pm_k p59M p59A (p20F.tr p59F (Nat.le_refl _)) (Nat.le_refl _)
        · refine sw_iload_n (pc' := 37) rfl dX5_disjoint_36 rfl ?_
          refine sw_S (M' := MX5_takesNothing) (d' := d - 1) (bc' := 0) (bs' := 0) (as := [_]) dX5_disjoint_37 w_1181 ok_X5_takesNothing (q_takesNothing (by omega)) (by omega) (Nat.le_of_ble_eq_true rfl) (Nat.zero_le _) (Nat.zero_le _) (fun E h' n' _ z => det_x z) (det_k ?_)
          rw [tn_k (k := j) (by omega)]
          refine sw_if_eq (pc' := 43) (tgt := 58) rfl dX5_disjoint_40 (by decide +kernel) (fun c40 => ?_) (fun c40 => ?_)
          · refine sw_aload_n (pc' := 59) rfl dX5_disjoint_58 rfl ?_
            refine sw_V (M' := MX5_no) (d' := d - 1) (bc' := 0) (bs' := 0) (ci := 6) (as := []) dX5_disjoint_59 w_1184 ok_X5_no (q_no p20M p20A) p20M.ob rfl (by omega) (Nat.le_of_ble_eq_true rfl) (Nat.zero_le _) (Nat.zero_le _) (fun E h' n' _ z => rp_x z) (rp_k (fun p59 p59ρ p59τ p59M p59A p59F => ?_))
            obtain ⟨Gp59, hGp59, eGp59⟩ := p59M.out
            refine sw_ret (v := some _) ⟨dX5_disjoint_62, _, rfl, rfl⟩ ?_
            rw [opDisjoint, onSh_k hk, onSh_k hj, if_pos (Or.inl (nnB_t (bI_1 c33) (bI_0 c40)))]
            exact pm_k p59M p59A (p20F.tr p59F (Nat.le_refl _)) (Nat.le_refl _)
          · refine sw_aload_n (pc' := 44) rfl dX5_disjoint_43 rfl ?_
            refine sw_iload_n (pc' := 45) rfl dX5_disjoint_44 rfl ?_
            refine sw_V (M' := MX5_hasNothing) (d' := d - 1) (bc' := 0) (bs' := 0) (ci := 6) (as := [_]) dX5_disjoint_45 w_1251 ok_X5_hasNothing (q_hasNothing p20M p20A (k := j) (by omega) (hI.1 j (by omega)) (by omega)) p20M.ob rfl (by omega) (Nat.le_of_ble_eq_true rfl) (Nat.zero_le _) (Nat.zero_le _) (fun E h' n' _ z => det_x z) (det_k ?_)
            refine sw_if_eq (pc' := 51) (tgt := 63) rfl dX5_disjoint_48 (by decide +kernel) (fun c48 => ?_) (fun c48 => ?_)
            · refine sw_iconst (pc' := 64) (v := 1) rfl dX5_disjoint_63 (by decide +kernel) ?_
              refine sw_istore_n (pc' := 65) (lv' := [(3, _), (0, _), (1, _), (2, _)]) rfl dX5_disjoint_64 (by decide +kernel) rfl ?_
              refine sw_iconst (pc' := 66) (v := 0) rfl dX5_disjoint_65 (by decide +kernel) ?_
              refine sw_istore (pc' := 68) (lv' := [(4, _), (3, _), (0, _), (1, _), (2, _)]) rfl dX5_disjoint_66 (by decide +kernel) rfl ?_
              refine ql_disjoint p20M p20A hk hck hj hcj (by omega) (σ.2.1 k) 0 true (by omega) ?_
              rw [opDisjoint, onSh_k hk, onSh_k hj, if_neg (fun q => q.elim (fun e => Bool.noConfusion (e.symm.trans (nnB_f2 (bI_1 c40)))) (fun e => Bool.noConfusion (e.symm.trans (nnB_f1 (bI_0 c48)))))]
              exact pm_k p20M p20A p20F (Nat.le_refl _)
            · refine sw_iload_n (pc' := 52) rfl dX5_disjoint_51 rfl ?_
              refine sw_S (M' := MX5_takesNothing) (d' := d - 1) (bc' := 0) (bs' := 0) (as := [_]) dX5_disjoint_52 w_1181 ok_X5_takesNothing (q_takesNothing (by omega)) (by omega) (Nat.le_of_ble_eq_true rfl) (Nat.zero_le _) (Nat.zero_le _) (fun E h' n' _ z => det_x z) (det_k ?_)
              rw [tn_k (k := k) (by omega)]
              refine sw_if_ne (pc' := 58) (tgt := 63) rfl dX5_disjoint_55 (by decide +kernel) (fun c55 => ?_) (fun c55 => ?_)
              · refine sw_iconst (pc' := 64) (v := 1) rfl dX5_disjoint_63 (by decide +kernel) ?_
                refine sw_istore_n (pc' := 65) (lv' := [(3, _), (0, _), (1, _), (2, _)]) rfl dX5_disjoint_64 (by decide +kernel) rfl ?_
                refine sw_iconst (pc' := 66) (v := 0) rfl dX5_disjoint_65 (by decide +kernel) ?_
                refine sw_istore (pc' := 68) (lv' := [(4, _), (3, _), (0, _), (1, _), (2, _)]) rfl dX5_disjoint_66 (by decide +kernel) rfl ?_
                refine ql_disjoint p20M p20A hk hck hj hcj (by omega) (σ.2.1 k) 0 true (by omega) ?_
                rw [opDisjoint, onSh_k hk, onSh_k hj, if_neg (fun q => q.elim (fun e => Bool.noConfusion (e.symm.trans (nnB_f2 (bI_1 c40)))) (fun e => Bool.noConfusion (e.symm.trans (nnB_f2 (bI_1 c55)))))]
                exact pm_k p20M p20A p20F (Nat.le_refl _)
              · refine sw_aload_n (pc' := 59) rfl dX5_disjoint_58 rfl ?_
                refine sw_V (M' := MX5_no) (d' := d - 1) (bc' := 0) (bs' := 0) (ci := 6) (as := []) dX5_disjoint_59 w_1184 ok_X5_no (q_no p20M p20A) p20M.ob rfl (by omega) (Nat.le_of_ble_eq_true rfl) (Nat.zero_le _) (Nat.zero_le _) (fun E h' n' _ z => rp_x z) (rp_k (fun p59 p59ρ p59τ p59M p59A p59F => ?_))
                obtain ⟨Gp59, hGp59, eGp59⟩ := p59M.out
                refine sw_ret (v := some _) ⟨dX5_disjoint_62, _, rfl, rfl⟩ ?_
                rw [opDisjoint, onSh_k hk, onSh_k hj, if_pos (Or.inr (nnB_t (bI_1 c48) (bI_0 c55)))]
                exact pm_k p59M p59A (p20F.tr p59F (Nat.le_refl _)) (Nat.le_refl _)
      · exact absurd c23 (by decide +kernel)
    · exact absurd c12 (by decide +kernel)
theorem ql_end {h : AH} {d bc bs n : Nat} {ρ : Nat → Nat → Int32} {τ : Nat → Int32} {σ : CS} {th : Int32} {y : Int32} {Post : ARes → AH → Nat → Prop} (hM : MM h ρ τ σ th) (hA : AG ρ τ σ) {k : Nat} (hk : k < 11) (hc : σ.2.1 k ≤ 12) (hd : 1 ≤ d) (m : Nat) : ∀ (j : Nat) (v : Int32), j + m = σ.2.1 k → Post (.inl (some (.int (edN y (σ.1 k) j m v)))) h n → SW SR0 MX5_end d bc bs 47 [(4, .int (nI j)), (3, .int v), (0, .ref 135), (1, .int (nI k)), (2, .int y)] [] h n Post := by
  obtain ⟨G0, hG0, eG0⟩ := hM.out
  induction m with
  | zero =>
    intro j v hj fq
    have hjc : j = σ.2.1 k := by omega
    subst hjc
    refine sw_iload (pc' := 49) rfl dX5_end_47 rfl ?_
    refine sw_aload_n (pc' := 50) rfl dX5_end_49 rfl ?_
    refine sw_getf (ci := 6) (k := 4) (pc' := 53) rfl dX5_end_50 (by decide +kernel) w_1117 hM.ob rfl ?_
    refine sw_iload_n (pc' := 54) rfl dX5_end_53 rfl ?_
    refine sw_iald (j := k) (pc' := 55) rfl dX5_end_54 hM.sz rfl (by omega) (by decide +kernel) ?_
    refine sw_icmp_ge (pc' := 58) (tgt := 98) rfl dX5_end_55 (by decide +kernel) (fun c55 => ?_) (fun c55 => ?_)
    · refine sw_iload_n (pc' := 99) rfl dX5_end_98 rfl ?_
      refine sw_ret (v := some _) ⟨dX5_end_99, _, rfl, rfl⟩ ?_
      exact fq
    · exact absurd (Int32.le_refl _) c55
  | succ m ih =>
    intro j v hj fq
    rw [edN] at fq
    refine sw_iload (pc' := 49) rfl dX5_end_47 rfl ?_
    refine sw_aload_n (pc' := 50) rfl dX5_end_49 rfl ?_
    refine sw_getf (ci := 6) (k := 4) (pc' := 53) rfl dX5_end_50 (by decide +kernel) w_1117 hM.ob rfl ?_
    refine sw_iload_n (pc' := 54) rfl dX5_end_53 rfl ?_
    refine sw_iald (j := k) (pc' := 55) rfl dX5_end_54 hM.sz rfl (by omega) (by decide +kernel) ?_
    refine sw_icmp_ge (pc' := 58) (tgt := 98) rfl dX5_end_55 (by decide +kernel) (fun c55 => ?_) (fun c55 => ?_)
    · exact absurd c55 (nI_ge (by omega) (by omega))
    · refine sw_iload_n (pc' := 59) rfl dX5_end_58 rfl ?_
      refine sw_if_eq (pc' := 62) (tgt := 78) rfl dX5_end_59 (by decide +kernel) (fun c59 => ?_) (fun c59 => ?_)
      · refine sw_iload_n (pc' := 79) rfl dX5_end_78 rfl ?_
        refine sw_aload_n (pc' := 80) rfl dX5_end_79 rfl ?_
        refine sw_getf (ci := 6) (k := 3) (pc' := 83) rfl dX5_end_80 (by decide +kernel) w_1116 hM.ob rfl ?_
        refine sw_iload_n (pc' := 84) rfl dX5_end_83 rfl ?_
        refine sw_aald (j := k) (pc' := 85) rfl dX5_end_84 hG0 (by decide +kernel) (by decide +kernel) rfl (by omega) (by decide +kernel) (eG0 k (by omega)) ?_
        refine sw_iload (pc' := 87) rfl dX5_end_85 rfl ?_
        refine sw_iald (j := j) (pc' := 88) rfl dX5_end_87 (hM.row (k := k) (by omega)) rfl (by omega) (by decide +kernel) ?_
        rw [hA.1 k (by omega) j (by omega)]
        refine sw_S (M' := MJ9_max_7cf53) (d' := d - 1) (bc' := 0) (bs' := 0) (as := [_, _]) dX5_end_88 w_1438 ok_J9_max_7cf53 (m_max) (by omega) (Nat.le_of_ble_eq_true rfl) (Nat.zero_le _) (Nat.zero_le _) (fun E h' n' _ z => det_x z) (det_k ?_)
        refine sw_istore_n (pc' := 92) (lv' := [(3, _), (4, _), (0, _), (1, _), (2, _)]) rfl dX5_end_91 (by decide +kernel) rfl ?_
        refine sw_iinc (pc' := 95) (lv' := [(4, _), (3, _), (0, _), (1, _), (2, _)]) (v := nI (j + 1)) rfl dX5_end_92 rfl (nI_1 j) (by decide +kernel) rfl ?_
        refine sw_goto (tgt := 47) dX5_end_95 (by decide +kernel) ?_
        rw [if_pos c59] at fq
        exact ih (j + 1) _ (by omega) fq
      · refine sw_iload_n (pc' := 63) rfl dX5_end_62 rfl ?_
        refine sw_aload_n (pc' := 64) rfl dX5_end_63 rfl ?_
        refine sw_getf (ci := 6) (k := 3) (pc' := 67) rfl dX5_end_64 (by decide +kernel) w_1116 hM.ob rfl ?_
        refine sw_iload_n (pc' := 68) rfl dX5_end_67 rfl ?_
        refine sw_aald (j := k) (pc' := 69) rfl dX5_end_68 hG0 (by decide +kernel) (by decide +kernel) rfl (by omega) (by decide +kernel) (eG0 k (by omega)) ?_
        refine sw_iload (pc' := 71) rfl dX5_end_69 rfl ?_
        refine sw_iald (j := j) (pc' := 72) rfl dX5_end_71 (hM.row (k := k) (by omega)) rfl (by omega) (by decide +kernel) ?_
        rw [hA.1 k (by omega) j (by omega)]
        refine sw_S (M' := MJ9_min_7cf53) (d' := d - 1) (bc' := 0) (bs' := 0) (as := [_, _]) dX5_end_72 w_1437 ok_J9_min_7cf53 (m_min) (by omega) (Nat.le_of_ble_eq_true rfl) (Nat.zero_le _) (Nat.zero_le _) (fun E h' n' _ z => det_x z) (det_k ?_)
        refine sw_goto (tgt := 91) dX5_end_75 (by decide +kernel) ?_
        refine sw_istore_n (pc' := 92) (lv' := [(3, _), (4, _), (0, _), (1, _), (2, _)]) rfl dX5_end_91 (by decide +kernel) rfl ?_
        refine sw_iinc (pc' := 95) (lv' := [(4, _), (3, _), (0, _), (1, _), (2, _)]) (v := nI (j + 1)) rfl dX5_end_92 rfl (nI_1 j) (by decide +kernel) rfl ?_
        refine sw_goto (tgt := 47) dX5_end_95 (by decide +kernel) ?_
        rw [if_neg c59] at fq
        exact ih (j + 1) _ (by omega) fq
theorem q_end {h : AH} {d bc bs n : Nat} {σ : CS} {th : Int32} {a y : Int32} (hR : RMo h σ th) (hI : Iv σ) (hn : 159 ≤ n) (hd : 8 ≤ d) (h1 : 1 ≤ bc) (h2 : 12 ≤ bs)  : SM SR0 MX5_end d bc bs [.ref 135, .int a, .int y] h n (PM h n (tc sI sI) (opEnd σ a y)) := by
  obtain ⟨ρ, τ, hM, hA⟩ := hR
  obtain ⟨G0, hG0, eG0⟩ := hM.out
  refine sm_of pn_OverwalksModel rfl (Nat.le_of_ble_eq_true rfl) ?_
  rcases idxN 11 (by decide +kernel) a with qk1 | ⟨k, hk, rfl⟩
  · refine sw_aload_n (pc' := 1) rfl dX5_end_0 rfl ?_
    refine sw_iload_n (pc' := 2) rfl dX5_end_1 rfl ?_
    refine sw_S (M' := MX5_isNone) (d' := d - 1) (bc' := 0) (bs' := 0) (as := [_]) dX5_end_2 w_1165 ok_X5_isNone (q_isNone (by omega)) (by omega) (Nat.le_of_ble_eq_true rfl) (Nat.zero_le _) (Nat.zero_le _) (fun E h' n' _ z => det_x z) (det_k ?_)
    rw [show inB a 0 10 = false from no_x (N := 10) (by decide +kernel) qk1]
    show SW _ _ _ _ _ _ _ (.int 1 :: _) _ _ _
    refine sw_V (M' := MX5_isStopped__) (d' := d - 1) (bc' := 0) (bs' := 0) (ci := 6) (as := [_]) dX5_end_5 w_1235 ok_X5_isStopped__ (q_isStopped1 (a := true) hM hA (by omega)) hM.ob rfl (by omega) (Nat.le_of_ble_eq_true rfl) (Nat.zero_le _) (Nat.zero_le _) (fun E h' n' _ z => rp_x z) (rp_k (fun p5 p5ρ p5τ p5M p5A p5F => ?_))
    obtain ⟨Gp5, hGp5, eGp5⟩ := p5M.out
    show SW _ _ _ _ _ _ _ (.int 1 :: _) _ _ _
    refine sw_if_eq (pc' := 11) (tgt := 13) rfl dX5_end_8 (by decide +kernel) (fun c8 => ?_) (fun c8 => ?_)
    · exact absurd c8 (by decide +kernel)
    · refine sw_iconst (pc' := 12) (v := 0) rfl dX5_end_11 (by decide +kernel) ?_
      refine sw_ret (v := some _) ⟨dX5_end_12, _, rfl, rfl⟩ ?_
      rw [opEnd, onSh_x qk1]
      exact pm_x tc_1 p5M p5A p5F (Nat.le_refl _)
  have hck := hI.1 k hk
  refine sw_aload_n (pc' := 1) rfl dX5_end_0 rfl ?_
  refine sw_iload_n (pc' := 2) rfl dX5_end_1 rfl ?_
  refine sw_S (M' := MX5_isNone) (d' := d - 1) (bc' := 0) (bs' := 0) (as := [_]) dX5_end_2 w_1165 ok_X5_isNone (q_isNone (by omega)) (by omega) (Nat.le_of_ble_eq_true rfl) (Nat.zero_le _) (Nat.zero_le _) (fun E h' n' _ z => det_x z) (det_k ?_)
  rw [show inB (nI k) 0 10 = true from inB_k (N := 10) (by omega) (by decide +kernel)]
  show SW _ _ _ _ _ _ _ (.int 0 :: _) _ _ _
  refine sw_V (M' := MX5_isStopped__) (d' := d - 1) (bc' := 0) (bs' := 0) (ci := 6) (as := [_]) dX5_end_5 w_1235 ok_X5_isStopped__ (q_isStopped1 (a := false) hM hA (by omega)) hM.ob rfl (by omega) (Nat.le_of_ble_eq_true rfl) (Nat.zero_le _) (Nat.zero_le _) (fun E h' n' _ z => rp_x z) (rp_k (fun p5 p5ρ p5τ p5M p5A p5F => ?_))
  obtain ⟨Gp5, hGp5, eGp5⟩ := p5M.out
  show SW _ _ _ _ _ _ _ (.int 0 :: _) _ _ _
  refine sw_if_eq (pc' := 11) (tgt := 13) rfl dX5_end_8 (by decide +kernel) (fun c8 => ?_) (fun c8 => ?_)
  · refine sw_aload_n (pc' := 14) rfl dX5_end_13 rfl ?_
    refine sw_getf (ci := 6) (k := 4) (pc' := 17) rfl dX5_end_14 (by decide +kernel) w_1117 p5M.ob rfl ?_
    refine sw_iload_n (pc' := 18) rfl dX5_end_17 rfl ?_
    refine sw_iald (j := k) (pc' := 19) rfl dX5_end_18 p5M.sz rfl (by omega) (by decide +kernel) ?_
    refine sw_if_eq (pc' := 22) (tgt := 30) rfl dX5_end_19 (by decide +kernel) (fun c19 => ?_) (fun c19 => ?_)
    · refine sw_aload_n (pc' := 31) rfl dX5_end_30 rfl ?_
      refine sw_V (M' := MX5_no) (d' := d - 1) (bc' := 0) (bs' := 0) (ci := 6) (as := []) dX5_end_31 w_1184 ok_X5_no (q_no p5M p5A) p5M.ob rfl (by omega) (Nat.le_of_ble_eq_true rfl) (Nat.zero_le _) (Nat.zero_le _) (fun E h' n' _ z => rp_x z) (rp_k (fun p31 p31ρ p31τ p31M p31A p31F => ?_))
      obtain ⟨Gp31, hGp31, eGp31⟩ := p31M.out
      refine sw_ret (v := some _) ⟨dX5_end_34, _, rfl, rfl⟩ ?_
      rw [opEnd, onSh_k hk, if_pos (Or.inl ((nI_eq (b := 0) (by omega) (by decide +kernel)).mp c19))]
      exact pm_k p31M p31A (p5F.tr p31F (Nat.le_refl _)) (Nat.le_refl _)
    · have hp : 0 < σ.2.1 k := Nat.pos_of_ne_zero (fun e => c19 (by rw [e]; rfl))
      refine sw_aload_n (pc' := 23) rfl dX5_end_22 rfl ?_
      refine sw_iload_n (pc' := 24) rfl dX5_end_23 rfl ?_
      refine sw_V (M' := MX5_hasNothing) (d' := d - 1) (bc' := 0) (bs' := 0) (ci := 6) (as := [_]) dX5_end_24 w_1251 ok_X5_hasNothing (q_hasNothing p5M p5A (k := k) (by omega) (hI.1 k (by omega)) (by omega)) p5M.ob rfl (by omega) (Nat.le_of_ble_eq_true rfl) (Nat.zero_le _) (Nat.zero_le _) (fun E h' n' _ z => det_x z) (det_k ?_)
      refine sw_if_eq (pc' := 30) (tgt := 35) rfl dX5_end_27 (by decide +kernel) (fun c27 => ?_) (fun c27 => ?_)
      · refine sw_aload_n (pc' := 36) rfl dX5_end_35 rfl ?_
        refine sw_getf (ci := 6) (k := 3) (pc' := 39) rfl dX5_end_36 (by decide +kernel) w_1116 p5M.ob rfl ?_
        refine sw_iload_n (pc' := 40) rfl dX5_end_39 rfl ?_
        refine sw_aald (j := k) (pc' := 41) rfl dX5_end_40 hGp5 (by decide +kernel) (by decide +kernel) rfl (by omega) (by decide +kernel) (eGp5 k (by omega)) ?_
        refine sw_iconst (pc' := 42) (v := 0) rfl dX5_end_41 (by decide +kernel) ?_
        refine sw_iald (j := 0) (pc' := 43) rfl dX5_end_42 (p5M.row (k := k) (by omega)) rfl (by omega) (by decide +kernel) ?_
        rw [p5A.1 k (by omega) 0 (by omega)]
        refine sw_istore_n (pc' := 44) (lv' := [(3, _), (0, _), (1, _), (2, _)]) rfl dX5_end_43 (by decide +kernel) rfl ?_
        refine sw_iconst (pc' := 45) (v := 1) rfl dX5_end_44 (by decide +kernel) ?_
        refine sw_istore (pc' := 47) (lv' := [(4, _), (3, _), (0, _), (1, _), (2, _)]) rfl dX5_end_45 (by decide +kernel) rfl ?_
        refine ql_end p5M p5A hk hck (by omega) (σ.2.1 k - 1) 1 _ (by omega) ?_
        rw [opEnd, onSh_k hk, if_neg (fun q => q.elim (fun e => c19 (by rw [e]; rfl)) (fun e => Bool.noConfusion (e.symm.trans (bI_0 c27))))]
        exact pm_k p5M p5A p5F (Nat.le_refl _)
      · refine sw_aload_n (pc' := 31) rfl dX5_end_30 rfl ?_
        refine sw_V (M' := MX5_no) (d' := d - 1) (bc' := 0) (bs' := 0) (ci := 6) (as := []) dX5_end_31 w_1184 ok_X5_no (q_no p5M p5A) p5M.ob rfl (by omega) (Nat.le_of_ble_eq_true rfl) (Nat.zero_le _) (Nat.zero_le _) (fun E h' n' _ z => rp_x z) (rp_k (fun p31 p31ρ p31τ p31M p31A p31F => ?_))
        obtain ⟨Gp31, hGp31, eGp31⟩ := p31M.out
        refine sw_ret (v := some _) ⟨dX5_end_34, _, rfl, rfl⟩ ?_
        rw [opEnd, onSh_k hk, if_pos (Or.inr (bI_1 c27))]
        exact pm_k p31M p31A (p5F.tr p31F (Nat.le_refl _)) (Nat.le_refl _)
  · exact absurd c8 (by decide +kernel)
end
section
/-! 46.model -/
/-! the model: turn, rotate, pour, pair, pourRest, takeOut -/
theorem i_sub2 {a b : Int32} : a - (b + 1) = a - b - 1 := by
  rw [Int32.sub_eq_add_neg, Int32.neg_add, Int32.sub_eq_add_neg, Int32.sub_eq_add_neg, Int32.sub_eq_add_neg a b, Int32.add_assoc]
theorem MM.placeU {h h' : AH} {ρ : Nat → Nat → Int32} {τ : Nat → Int32} {σ : CS} {th : Int32} {k A : Nat} (hM : MM h ρ τ σ th) (hk : k < 6) (eA : wAh σ k = nI A) (hA : 1 ≤ A) (e4 : h' 154 = .inl (0, 6, .inl (up (wAh σ) k (nI (A - 1))))) (hF : ∀ i, i ≠ 154 → h' i = h i) : MM h' ρ (up τ k (τ k)) (wU σ k ((σ.2.2.2.2.1 k).1, wO σ k, (σ.2.2.2.2.1 k).2.2.1, (σ.2.2.2.2.1 k).2.2.2.1, (σ.2.2.2.2.1 k).2.2.2.2.1 + 1, (σ.2.2.2.2.1 k).2.2.2.2.2.1, (σ.2.2.2.2.1 k).2.2.2.2.2.2.1, (σ.2.2.2.2.1 k).2.2.2.2.2.2.2)) th := by
  refine hM.wkU hk (q := ((σ.2.2.2.2.1 k).1, wO σ k, (σ.2.2.2.2.1 k).2.2.1, (σ.2.2.2.2.1 k).2.2.2.1, (σ.2.2.2.2.1 k).2.2.2.2.1 + 1, (σ.2.2.2.2.1 k).2.2.2.2.2.1, (σ.2.2.2.2.1 k).2.2.2.2.2.2.1, (σ.2.2.2.2.1 k).2.2.2.2.2.2.2)) ?_ ?_ ?_ ?_ ?_ ?_ ?_ (fun i hi => hF i (by omega))
  · rw [hF 150 (by decide +kernel), hM.sh]
    show _ = Sum.inl (0, 6, Sum.inl (up (shF σ) k (if (σ.2.2.2.2.1 k).1 = true then nI (wO σ k) else -1)))
    rw [show (if (σ.2.2.2.2.1 k).1 = true then nI (wO σ k) else -1) = shF σ k from by unfold shF; rw [if_pos hk], up_id]
  · rw [hF 151 (by decide +kernel), hM.hw]
    show _ = Sum.inl (0, 6, Sum.inl (up (fun j => (σ.2.2.2.2.1 j).2.2.1) k ((fun j => (σ.2.2.2.2.1 j).2.2.1) k)))
    rw [up_id]
  · rw [hF 152 (by decide +kernel), hM.gi]
    show _ = Sum.inl (0, 6, Sum.inl (up (fun j => (σ.2.2.2.2.1 j).2.2.2.1) k ((fun j => (σ.2.2.2.2.1 j).2.2.2.1) k)))
    rw [up_id]
  · rw [hF 153 (by decide +kernel), hM.st]
    show _ = Sum.inl (0, 6, Sum.inl (up (fun j => (σ.2.2.2.2.1 j).2.2.2.2.2.1) k ((fun j => (σ.2.2.2.2.1 j).2.2.2.2.2.1) k)))
    rw [up_id]
  · rw [e4]
    show _ = Sum.inl (0, 6, Sum.inl (up (wAh σ) k ((σ.2.2.2.2.1 k).2.2.2.1 - ((σ.2.2.2.2.1 k).2.2.2.2.1 + 1))))
    rw [show (σ.2.2.2.2.1 k).2.2.2.1 - ((σ.2.2.2.2.1 k).2.2.2.2.1 + 1) = wAh σ k - 1 from i_sub2, eA, nI_m1 (by omega)]
  · rw [hF 155 (by decide +kernel), hM.ct]
    show _ = Sum.inl (1, 6, Sum.inl (up (fun j => bI (σ.2.2.2.2.1 j).2.2.2.2.2.2.2) k ((fun j => bI (σ.2.2.2.2.1 j).2.2.2.2.2.2.2) k)))
    rw [up_id]
  · rw [hF 157 (by decide +kernel), hM.td, up_id]
theorem AG.placeU {ρ : Nat → Nat → Int32} {τ : Nat → Int32} {σ : CS} {k : Nat} {a b c d : Int32} {m : Bool} {o : Nat} (hA : AG ρ τ σ) (hk : k < 6) : AG ρ (up τ k (τ k)) (wU σ k (m, o, a, b, c, d, (σ.2.2.2.2.1 k).2.2.2.2.2.2.1, (σ.2.2.2.2.1 k).2.2.2.2.2.2.2)) := hA.wkU (hA.2 k hk)
/-- it may not take out again, and is not stale by that -/
theorem MM.stampU {h h' : AH} {ρ : Nat → Nat → Int32} {τ : Nat → Int32} {σ : CS} {th : Int32} {k s : Nat} (hM : MM h ρ τ σ th) (hk : k < 6) (hs : shF σ k = nI s) (e5 : h' 155 = .inl (1, 6, .inl (up (fun j => bI (σ.2.2.2.2.1 j).2.2.2.2.2.2.2) k (vp_nar .boolean 0)))) (e3 : h' 153 = .inl (0, 6, .inl (up (fun j => (σ.2.2.2.2.1 j).2.2.2.2.2.1) k (σ.2.2.1 s)))) (hF : ∀ i, i ≠ 153 → i ≠ 155 → h' i = h i) : MM h' ρ (up τ k (τ k)) (wU σ k ((σ.2.2.2.2.1 k).1, wO σ k, (σ.2.2.2.2.1 k).2.2.1, (σ.2.2.2.2.1 k).2.2.2.1, (σ.2.2.2.2.1 k).2.2.2.2.1, σ.2.2.1 s, (σ.2.2.2.2.1 k).2.2.2.2.2.2.1, false)) th := by
  refine hM.wkU hk (q := ((σ.2.2.2.2.1 k).1, wO σ k, (σ.2.2.2.2.1 k).2.2.1, (σ.2.2.2.2.1 k).2.2.2.1, (σ.2.2.2.2.1 k).2.2.2.2.1, σ.2.2.1 s, (σ.2.2.2.2.1 k).2.2.2.2.2.2.1, false)) ?_ ?_ ?_ e3 ?_ e5 ?_ (fun i hi => hF i (by omega) (by omega))
  · rw [hF 150 (by decide +kernel) (by decide +kernel), hM.sh]
    show _ = Sum.inl (0, 6, Sum.inl (up (shF σ) k (if (σ.2.2.2.2.1 k).1 = true then nI (wO σ k) else -1)))
    rw [show (if (σ.2.2.2.2.1 k).1 = true then nI (wO σ k) else -1) = shF σ k from by unfold shF; rw [if_pos hk], up_id]
  · rw [hF 151 (by decide +kernel) (by decide +kernel), hM.hw]
    show _ = Sum.inl (0, 6, Sum.inl (up (fun j => (σ.2.2.2.2.1 j).2.2.1) k ((fun j => (σ.2.2.2.2.1 j).2.2.1) k)))
    rw [up_id]
  · rw [hF 152 (by decide +kernel) (by decide +kernel), hM.gi]
    show _ = Sum.inl (0, 6, Sum.inl (up (fun j => (σ.2.2.2.2.1 j).2.2.2.1) k ((fun j => (σ.2.2.2.2.1 j).2.2.2.1) k)))
    rw [up_id]
  · rw [hF 154 (by decide +kernel) (by decide +kernel), hM.pl]
    show _ = Sum.inl (0, 6, Sum.inl (up (wAh σ) k (wAh σ k)))
    rw [up_id]
  · rw [hF 157 (by decide +kernel) (by decide +kernel), hM.td, up_id]
theorem AG.stampU {ρ : Nat → Nat → Int32} {τ : Nat → Int32} {σ : CS} {k : Nat} {a b c d e : Int32} {m : Bool} {o : Nat} (hA : AG ρ τ σ) : AG ρ (up τ k (τ k)) (wU σ k (m, o, a, b, c, d, e, false)) := hA.wkU (fun e => by cases e)
theorem liU_wU {σ : CS} {k s p : Nat} {q : WT} : liU (wU σ k q) s p = wU (liU σ s p) k q := by
  unfold liU
  split <;> rfl
theorem wO_wU {σ : CS} {k : Nat} {q : WT} : wO (wU σ k q) k = q.2.1 := by
  unfold wO wU
  show (up σ.2.2.2.2.1 k q k).2.1 = _
  rw [up_s]
theorem liU_wk {σ : CS} {s p : Nat} : (liU σ s p).2.2.2.2.1 = σ.2.2.2.2.1 := by
  unfold liU
  split <;> rfl
theorem wCt_t {σ : CS} {k : Nat} (h1 : (σ.2.2.2.2.1 k).2.2.2.2.2.2.2 = true) (h2 : (σ.2.2.2.2.1 k).2.2.2.2.2.2.1 = σ.2.2.2.1 (wO σ k)) : wCt σ k = true := by unfold wCt; rw [h1, decide_eq_true h2.symm]; rfl
theorem wCt_f1 {σ : CS} {k : Nat} (h1 : (σ.2.2.2.2.1 k).2.2.2.2.2.2.2 = false) : wCt σ k = false := by unfold wCt; rw [h1]; rfl
theorem wCt_f2 {σ : CS} {k : Nat} (h2 : ¬ (σ.2.2.2.2.1 k).2.2.2.2.2.2.1 = σ.2.2.2.1 (wO σ k)) : wCt σ k = false := by unfold wCt; rw [decide_eq_false (fun q => h2 q.symm), Bool.and_false]
theorem cpB_1 {σ : CS} {k j : Nat} (h : kdO j = 5) : cpB σ k j = true := by unfold cpB; rw [decide_eq_true h]; rfl
theorem cpB_2 {σ : CS} {k j : Nat} (h : nnB σ k j = true) : cpB σ k j = true := by unfold cpB; rw [h, Bool.or_true]
theorem cpB_f {σ : CS} {k j : Nat} (h : ¬ kdO j = 5) (g : nnB σ k j = false) : cpB σ k j = false := by unfold cpB; rw [decide_eq_false h, g]; rfl
theorem liU_ix {σ : CS} {k p : Nat} (hI : Iv σ) (hk : k < 11) (hp : p < σ.2.1 k) : (¬ kdO k = 5 → p < σ.2.1 k) ∧ (kdO k = 5 → (σ.2.1 6 ≤ 12 ∧ p < σ.2.1 6 ∧ σ.2.1 7 ≤ 12 ∧ p < σ.2.1 7)) := ⟨fun _ => hp, lv6 hI hk hp⟩
theorem ql_turn {h : AH} {d bc bs N : Nat} {ρ : Nat → Nat → Int32} {τ : Nat → Int32} {σ : CS} {th : Int32} {Post : ARes → AH → Nat → Prop} (hM : MM h ρ τ σ th) (hA : AG ρ τ σ) {k : Nat} (hk : k < 11) (hc : σ.2.1 k ≤ 12) {a : Nat} {g : Nat → Int32} (ha : 158 ≤ a) (hB : h a = .inl (0, σ.2.1 k, .inl g)) (hg : ∀ j, j < σ.2.1 k → g j = σ.1 k j)  (fq : ∀ (h' : AH) (r : Nat → Int32), (∀ i, i < σ.2.1 k → r i = σ.1 k (σ.2.1 k - 1 - i)) → (∀ f, MM h' (up ρ k r) τ (sU σ k f (σ.2.1 k) (σ.2.2.1 k) (σ.2.2.2.1 k + 1)) th) → (∀ i, i < 135 ∨ 158 ≤ i → h' i = h i) → Post (.inl (some (.int (nI (σ.2.1 k))))) h' N) (m : Nat) : ∀ (j : Nat) (q : AH) (r : Nat → Int32), j + m = σ.2.1 k → q (137 + k) = .inl (0, 12, .inl r) → (∀ i, i < j → r i = σ.1 k (σ.2.1 k - 1 - i)) → (∀ i, i ≠ 137 + k → q i = h i) → SW SR0 MX5_turn d bc bs 22 [(3, .int (nI j)), (2, .ref a), (0, .ref 135), (1, .int (nI k))] [] q N Post := by
  obtain ⟨G0, hG0, eG0⟩ := hM.out
  induction m with
  | zero =>
    intro j q r hj hr hf hF
    have hjc : j = σ.2.1 k := by omega
    subst hjc
    refine sw_iload_n (pc' := 23) rfl dX5_turn_22 rfl ?_
    refine sw_aload_n (pc' := 24) rfl dX5_turn_23 rfl ?_
    refine sw_alen (pc' := 25) rfl dX5_turn_24 ((hF a (by omega)).trans hB) (by decide +kernel) (Or.inl (by show 100 ≤ _; omega)) ?_
    refine sw_icmp_ge (pc' := 28) (tgt := 50) rfl dX5_turn_25 (by decide +kernel) (fun c25 => ?_) (fun c25 => ?_)
    · refine sw_aload_n (pc' := 51) rfl dX5_turn_50 rfl ?_
      refine sw_getf (ci := 6) (k := 12) (pc' := 54) rfl dX5_turn_51 (by decide +kernel) w_1125 ((hF 135 (by omega)).trans hM.ob) rfl ?_
      refine sw_iload_n (pc' := 55) rfl dX5_turn_54 rfl ?_
      refine sw_dup2 (pc' := 56) rfl dX5_turn_55 rfl rfl ?_
      refine sw_iald (j := k) (pc' := 57) rfl dX5_turn_56 ((hF 156 (by omega)).trans hM.tu) rfl (by omega) (by decide +kernel) ?_
      refine sw_iconst (pc' := 58) (v := 1) rfl dX5_turn_57 (by decide +kernel) ?_
      refine sw_iadd (pc' := 59) rfl dX5_turn_58 ?_
      refine sw_iast (j := k) (pc' := 60) rfl dX5_turn_59 ((hF 156 (by omega)).trans hM.tu) (by decide +kernel) rfl (by omega) (by decide +kernel) ?_
      refine sw_nm (fun g1 eg1 => ?_)
      have zg1 := (congrFun eg1 156).trans (up_s (h := q) (i := 156))
      refine sw_aload_n (pc' := 61) rfl dX5_turn_60 rfl ?_
      refine sw_alen (pc' := 62) rfl dX5_turn_61 (((congrFun eg1 a).trans (up_n (by omega))).trans ((hF a (by omega)).trans hB)) (by decide +kernel) (Or.inl (by show 100 ≤ _; omega)) ?_
      refine sw_ret (v := some _) ⟨dX5_turn_62, _, rfl, rfl⟩ ?_
      exact fq g1 r hf (fun f => hM.rwT hk (((congrFun eg1 (137 + k)).trans (up_n (by omega))).trans hr) zg1 (fun i h1 h2 => (congrFun eg1 i).trans ((up_n h2).trans (hF i h1)))) (fun i q => (congrFun eg1 i).trans ((up_n (by omega)).trans (hF i (by omega))))
    · exact absurd (Int32.le_refl _) c25
  | succ m ih =>
    intro j q r hj hr hf hF
    refine sw_iload_n (pc' := 23) rfl dX5_turn_22 rfl ?_
    refine sw_aload_n (pc' := 24) rfl dX5_turn_23 rfl ?_
    refine sw_alen (pc' := 25) rfl dX5_turn_24 ((hF a (by omega)).trans hB) (by decide +kernel) (Or.inl (by show 100 ≤ _; omega)) ?_
    refine sw_icmp_ge (pc' := 28) (tgt := 50) rfl dX5_turn_25 (by decide +kernel) (fun c25 => ?_) (fun c25 => ?_)
    · exact absurd c25 (nI_ge (by omega) (by omega))
    · refine sw_aload_n (pc' := 29) rfl dX5_turn_28 rfl ?_
      refine sw_getf (ci := 6) (k := 3) (pc' := 32) rfl dX5_turn_29 (by decide +kernel) w_1116 ((hF 135 (by omega)).trans hM.ob) rfl ?_
      refine sw_iload_n (pc' := 33) rfl dX5_turn_32 rfl ?_
      refine sw_aald (j := k) (pc' := 34) rfl dX5_turn_33 ((hF 136 (by omega)).trans hG0) (by decide +kernel) (by decide +kernel) rfl (by omega) (by decide +kernel) (eG0 k (by omega)) ?_
      refine sw_iload_n (pc' := 35) rfl dX5_turn_34 rfl ?_
      refine sw_aload_n (pc' := 36) rfl dX5_turn_35 rfl ?_
      refine sw_aload_n (pc' := 37) rfl dX5_turn_36 rfl ?_
      refine sw_alen (pc' := 38) rfl dX5_turn_37 ((hF a (by omega)).trans hB) (by decide +kernel) (Or.inl (by show 100 ≤ _; omega)) ?_
      refine sw_iconst (pc' := 39) (v := 1) rfl dX5_turn_38 (by decide +kernel) ?_
      refine sw_isub (pc' := 40) rfl dX5_turn_39 ?_
      refine sw_iload_n (pc' := 41) rfl dX5_turn_40 rfl ?_
      refine sw_isub (pc' := 42) rfl dX5_turn_41 ?_
      rw [nI_m1 (by omega), pk_sub (by omega)]
      refine sw_iald (j := σ.2.1 k - 1 - j) (pc' := 43) rfl dX5_turn_42 ((hF a (by omega)).trans hB) rfl (by omega) (by omega) ?_
      rw [hg (σ.2.1 k - 1 - j) (by omega)]
      refine sw_iast (j := j) (pc' := 44) rfl dX5_turn_43 hr (by show 100 ≤ _; omega) rfl (by omega) (by decide +kernel) ?_
      refine sw_nm (fun g2 eg2 => ?_)
      have zg2 := (congrFun eg2 (137 + k)).trans (up_s (h := q) (i := (137 + k)))
      refine sw_iinc (pc' := 47) (lv' := [(3, _), (2, _), (0, _), (1, _)]) (v := nI (j + 1)) rfl dX5_turn_44 rfl (nI_1 j) (by decide +kernel) rfl ?_
      refine sw_goto (tgt := 22) dX5_turn_47 (by decide +kernel) ?_
      exact ih (j + 1) g2 _ (by omega) zg2 (fun i hi => (Nat.lt_or_ge i j).elim (fun g => (up_n (by omega)).trans (hf i g)) (fun g => (show i = j by omega) ▸ up_s)) (fun i h1 => (congrFun eg2 i).trans ((up_n h1).trans (hF i h1)))
theorem q_turn {h : AH} {d bc bs n : Nat} {σ : CS} {th : Int32} {a : Int32} (hR : RMo h σ th) (hI : Iv σ) (hn : 159 ≤ n) (hd : 8 ≤ d) (h1 : 1 ≤ bc) (h2 : 12 ≤ bs)  : SM SR0 MX5_turn d bc bs [.ref 135, .int a] h n (PM h n (tc sI sI) (opTurn σ a)) := by
  obtain ⟨ρ, τ, hM, hA⟩ := hR
  obtain ⟨G0, hG0, eG0⟩ := hM.out
  refine sm_of pn_OverwalksModel rfl (Nat.le_of_ble_eq_true rfl) ?_
  rcases idxN 11 (by decide +kernel) a with qk1 | ⟨k, hk, rfl⟩
  · refine sw_aload_n (pc' := 1) rfl dX5_turn_0 rfl ?_
    refine sw_iload_n (pc' := 2) rfl dX5_turn_1 rfl ?_
    refine sw_S (M' := MX5_isNoRow) (d' := d - 1) (bc' := 0) (bs' := 0) (as := [_]) dX5_turn_2 w_1267 ok_X5_isNoRow (q_isNoRow (by omega)) (by omega) (Nat.le_of_ble_eq_true rfl) (Nat.zero_le _) (Nat.zero_le _) (fun E h' n' _ z => det_x z) (det_k ?_)
    rw [show nrB a = true from nrB_x qk1]
    show SW _ _ _ _ _ _ _ (.int 1 :: _) _ _ _
    refine sw_V (M' := MX5_isStopped__) (d' := d - 1) (bc' := 0) (bs' := 0) (ci := 6) (as := [_]) dX5_turn_5 w_1235 ok_X5_isStopped__ (q_isStopped1 (a := true) hM hA (by omega)) hM.ob rfl (by omega) (Nat.le_of_ble_eq_true rfl) (Nat.zero_le _) (Nat.zero_le _) (fun E h' n' _ z => rp_x z) (rp_k (fun p5 p5ρ p5τ p5M p5A p5F => ?_))
    obtain ⟨Gp5, hGp5, eGp5⟩ := p5M.out
    show SW _ _ _ _ _ _ _ (.int 1 :: _) _ _ _
    refine sw_if_eq (pc' := 11) (tgt := 13) rfl dX5_turn_8 (by decide +kernel) (fun c8 => ?_) (fun c8 => ?_)
    · exact absurd c8 (by decide +kernel)
    · refine sw_iconst (pc' := 12) (v := 0) rfl dX5_turn_11 (by decide +kernel) ?_
      refine sw_ret (v := some _) ⟨dX5_turn_12, _, rfl, rfl⟩ ?_
      rw [opTurn, onRw_x qk1]
      exact pm_x tc_1 p5M p5A p5F (Nat.le_refl _)
  rcases Classical.em (kP (kdO k) = false) with qk | qk
  · refine sw_aload_n (pc' := 1) rfl dX5_turn_0 rfl ?_
    refine sw_iload_n (pc' := 2) rfl dX5_turn_1 rfl ?_
    refine sw_S (M' := MX5_isNoRow) (d' := d - 1) (bc' := 0) (bs' := 0) (as := [_]) dX5_turn_2 w_1267 ok_X5_isNoRow (q_isNoRow (by omega)) (by omega) (Nat.le_of_ble_eq_true rfl) (Nat.zero_le _) (Nat.zero_le _) (fun E h' n' _ z => det_x z) (det_k ?_)
    rw [show nrB (nI k) = true from nrB_y hk qk]
    show SW _ _ _ _ _ _ _ (.int 1 :: _) _ _ _
    refine sw_V (M' := MX5_isStopped__) (d' := d - 1) (bc' := 0) (bs' := 0) (ci := 6) (as := [_]) dX5_turn_5 w_1235 ok_X5_isStopped__ (q_isStopped1 (a := true) hM hA (by omega)) hM.ob rfl (by omega) (Nat.le_of_ble_eq_true rfl) (Nat.zero_le _) (Nat.zero_le _) (fun E h' n' _ z => rp_x z) (rp_k (fun p5 p5ρ p5τ p5M p5A p5F => ?_))
    obtain ⟨Gp5, hGp5, eGp5⟩ := p5M.out
    show SW _ _ _ _ _ _ _ (.int 1 :: _) _ _ _
    refine sw_if_eq (pc' := 11) (tgt := 13) rfl dX5_turn_8 (by decide +kernel) (fun c8 => ?_) (fun c8 => ?_)
    · exact absurd c8 (by decide +kernel)
    · refine sw_iconst (pc' := 12) (v := 0) rfl dX5_turn_11 (by decide +kernel) ?_
      refine sw_ret (v := some _) ⟨dX5_turn_12, _, rfl, rfl⟩ ?_
      rw [opTurn, onRw_y hk qk]
      exact pm_x tc_1 p5M p5A p5F (Nat.le_refl _)
  have hck := hI.1 k hk
  refine sw_aload_n (pc' := 1) rfl dX5_turn_0 rfl ?_
  refine sw_iload_n (pc' := 2) rfl dX5_turn_1 rfl ?_
  refine sw_S (M' := MX5_isNoRow) (d' := d - 1) (bc' := 0) (bs' := 0) (as := [_]) dX5_turn_2 w_1267 ok_X5_isNoRow (q_isNoRow (by omega)) (by omega) (Nat.le_of_ble_eq_true rfl) (Nat.zero_le _) (Nat.zero_le _) (fun E h' n' _ z => det_x z) (det_k ?_)
  rw [show nrB (nI k) = false from nrB_k hk qk]
  show SW _ _ _ _ _ _ _ (.int 0 :: _) _ _ _
  refine sw_V (M' := MX5_isStopped__) (d' := d - 1) (bc' := 0) (bs' := 0) (ci := 6) (as := [_]) dX5_turn_5 w_1235 ok_X5_isStopped__ (q_isStopped1 (a := false) hM hA (by omega)) hM.ob rfl (by omega) (Nat.le_of_ble_eq_true rfl) (Nat.zero_le _) (Nat.zero_le _) (fun E h' n' _ z => rp_x z) (rp_k (fun p5 p5ρ p5τ p5M p5A p5F => ?_))
  obtain ⟨Gp5, hGp5, eGp5⟩ := p5M.out
  show SW _ _ _ _ _ _ _ (.int 0 :: _) _ _ _
  refine sw_if_eq (pc' := 11) (tgt := 13) rfl dX5_turn_8 (by decide +kernel) (fun c8 => ?_) (fun c8 => ?_)
  · refine sw_aload_n (pc' := 14) rfl dX5_turn_13 rfl ?_
    refine sw_iload_n (pc' := 15) rfl dX5_turn_14 rfl ?_
    refine sw_iconst (pc' := 16) (v := 0) rfl dX5_turn_15 (by decide +kernel) ?_
    refine sw_V (M' := MX5_picture) (d' := d - 1) (bc' := 1) (bs' := 12) (ci := 6) (as := [_, _]) dX5_turn_16 w_1255 ok_X5_picture (q_picture p5M p5A (k := k) (by omega) (hI.1 k (by omega)) (by omega) (by omega) (by omega)) p5M.ob rfl (by omega) (Nat.le_of_ble_eq_true rfl) (by omega) (by omega) (fun E h' n' _ z => na_x z) (na_k (fun p16 p16f p16N p16g p16F => ?_))
    have p16M := p5M.fr (fun i h1 h2 => p16F i (by omega))
    obtain ⟨Gp16, hGp16, eGp16⟩ := p16M.out
    refine sw_astore_n (pc' := 20) (lv' := [(2, _), (0, _), (1, _)]) rfl dX5_turn_19 (by decide +kernel) rfl ?_
    refine sw_iconst (pc' := 21) (v := 0) rfl dX5_turn_20 (by decide +kernel) ?_
    refine sw_istore_n (pc' := 22) (lv' := [(3, _), (2, _), (0, _), (1, _)]) rfl dX5_turn_21 (by decide +kernel) rfl ?_
    refine ql_turn p16M p5A hk hck (a := n) (by omega) p16N p16g (fun p r hr hq hF => ?_) (σ.2.1 k) 0 p16 _ (by omega) (p16M.row hk) (fun i hi => absurd hi (Nat.not_lt_zero _)) (fun _ _ => rfl)
    rw [opTurn, onRw_k hk qk]
    exact pm_k (hq _) (p5A.shU (fun j hj => (hr j hj).trans (rv_at j hj))) ((p5F.tr (fun i q g => p16F i (by omega)) (Nat.le_refl _)).tr (FrM.of1 hF) (Nat.le_refl _)) (Nat.le_succ _)
  · exact absurd c8 (by decide +kernel)
theorem ql_rotate {h : AH} {d bc bs N : Nat} {ρ : Nat → Nat → Int32} {τ : Nat → Int32} {σ : CS} {th : Int32} {x : Int32} {Post : ARes → AH → Nat → Prop} (hM : MM h ρ τ σ th) (hA : AG ρ τ σ) {k : Nat} (hk : k < 11) (hc : σ.2.1 k ≤ 12) {a : Nat} {g : Nat → Int32} (ha : 158 ≤ a) (hB : h a = .inl (0, σ.2.1 k, .inl g)) (hg : ∀ j, j < σ.2.1 k → g j = σ.1 k j) {y : Nat} (hy0 : 0 < σ.2.1 k → y < σ.2.1 k) (hrot : ∀ j, j < σ.2.1 k → nI j + x - (nI j + x) / nI (σ.2.1 k) * nI (σ.2.1 k) + nI (σ.2.1 k) - (nI j + x - (nI j + x) / nI (σ.2.1 k) * nI (σ.2.1 k) + nI (σ.2.1 k)) / nI (σ.2.1 k) * nI (σ.2.1 k) = nI (wrN y (σ.2.1 k) j)) (fq : ∀ (h' : AH) (r : Nat → Int32), (∀ i, i < σ.2.1 k → r (wrN y (σ.2.1 k) i) = σ.1 k i) → (∀ f, MM h' (up ρ k r) τ (sU σ k f (σ.2.1 k) (σ.2.2.1 k) (σ.2.2.2.1 k + 1)) th) → (∀ i, i < 135 ∨ 158 ≤ i → h' i = h i) → Post (.inl (some (.int (nI (σ.2.1 k))))) h' N) (m : Nat) : ∀ (j : Nat) (q : AH) (r : Nat → Int32), j + m = σ.2.1 k → q (137 + k) = .inl (0, 12, .inl r) → (∀ i, i < j → r (wrN y (σ.2.1 k) i) = σ.1 k i) → (∀ i, i ≠ 137 + k → q i = h i) → SW SR0 MX5_rotate d bc bs 39 [(4, .int (nI j)), (3, .ref a), (0, .ref 135), (1, .int (nI k)), (2, .int x)] [] q N Post := by
  obtain ⟨G0, hG0, eG0⟩ := hM.out
  induction m with
  | zero =>
    intro j q r hj hr hf hF
    have hjc : j = σ.2.1 k := by omega
    subst hjc
    refine sw_iload (pc' := 41) rfl dX5_rotate_39 rfl ?_
    refine sw_aload_n (pc' := 42) rfl dX5_rotate_41 rfl ?_
    refine sw_alen (pc' := 43) rfl dX5_rotate_42 ((hF a (by omega)).trans hB) (by decide +kernel) (Or.inl (by show 100 ≤ _; omega)) ?_
    refine sw_icmp_ge (pc' := 46) (tgt := 76) rfl dX5_rotate_43 (by decide +kernel) (fun c43 => ?_) (fun c43 => ?_)
    · refine sw_aload_n (pc' := 77) rfl dX5_rotate_76 rfl ?_
      refine sw_getf (ci := 6) (k := 12) (pc' := 80) rfl dX5_rotate_77 (by decide +kernel) w_1125 ((hF 135 (by omega)).trans hM.ob) rfl ?_
      refine sw_iload_n (pc' := 81) rfl dX5_rotate_80 rfl ?_
      refine sw_dup2 (pc' := 82) rfl dX5_rotate_81 rfl rfl ?_
      refine sw_iald (j := k) (pc' := 83) rfl dX5_rotate_82 ((hF 156 (by omega)).trans hM.tu) rfl (by omega) (by decide +kernel) ?_
      refine sw_iconst (pc' := 84) (v := 1) rfl dX5_rotate_83 (by decide +kernel) ?_
      refine sw_iadd (pc' := 85) rfl dX5_rotate_84 ?_
      refine sw_iast (j := k) (pc' := 86) rfl dX5_rotate_85 ((hF 156 (by omega)).trans hM.tu) (by decide +kernel) rfl (by omega) (by decide +kernel) ?_
      refine sw_nm (fun g1 eg1 => ?_)
      have zg1 := (congrFun eg1 156).trans (up_s (h := q) (i := 156))
      refine sw_aload_n (pc' := 87) rfl dX5_rotate_86 rfl ?_
      refine sw_alen (pc' := 88) rfl dX5_rotate_87 (((congrFun eg1 a).trans (up_n (by omega))).trans ((hF a (by omega)).trans hB)) (by decide +kernel) (Or.inl (by show 100 ≤ _; omega)) ?_
      refine sw_ret (v := some _) ⟨dX5_rotate_88, _, rfl, rfl⟩ ?_
      exact fq g1 r hf (fun f => hM.rwT hk (((congrFun eg1 (137 + k)).trans (up_n (by omega))).trans hr) zg1 (fun i h1 h2 => (congrFun eg1 i).trans ((up_n h2).trans (hF i h1)))) (fun i q => (congrFun eg1 i).trans ((up_n (by omega)).trans (hF i (by omega))))
    · exact absurd (Int32.le_refl _) c43
  | succ m ih =>
    intro j q r hj hr hf hF
    refine sw_iload (pc' := 41) rfl dX5_rotate_39 rfl ?_
    refine sw_aload_n (pc' := 42) rfl dX5_rotate_41 rfl ?_
    refine sw_alen (pc' := 43) rfl dX5_rotate_42 ((hF a (by omega)).trans hB) (by decide +kernel) (Or.inl (by show 100 ≤ _; omega)) ?_
    refine sw_icmp_ge (pc' := 46) (tgt := 76) rfl dX5_rotate_43 (by decide +kernel) (fun c43 => ?_) (fun c43 => ?_)
    · exact absurd c43 (nI_ge (by omega) (by omega))
    · have hy : y < σ.2.1 k := hy0 (by omega)
      refine sw_aload_n (pc' := 47) rfl dX5_rotate_46 rfl ?_
      refine sw_getf (ci := 6) (k := 3) (pc' := 50) rfl dX5_rotate_47 (by decide +kernel) w_1116 ((hF 135 (by omega)).trans hM.ob) rfl ?_
      refine sw_iload_n (pc' := 51) rfl dX5_rotate_50 rfl ?_
      refine sw_aald (j := k) (pc' := 52) rfl dX5_rotate_51 ((hF 136 (by omega)).trans hG0) (by decide +kernel) (by decide +kernel) rfl (by omega) (by decide +kernel) (eG0 k (by omega)) ?_
      refine sw_iload (pc' := 54) rfl dX5_rotate_52 rfl ?_
      refine sw_iload_n (pc' := 55) rfl dX5_rotate_54 rfl ?_
      refine sw_iadd (pc' := 56) rfl dX5_rotate_55 ?_
      refine sw_aload_n (pc' := 57) rfl dX5_rotate_56 rfl ?_
      refine sw_alen (pc' := 58) rfl dX5_rotate_57 ((hF a (by omega)).trans hB) (by decide +kernel) (Or.inl (by show 100 ≤ _; omega)) ?_
      refine sw_irem (pc' := 59) rfl dX5_rotate_58 (fun e => by have := (nI_eq (b := 0) (by omega) (by decide +kernel)).mp e; omega) ?_
      refine sw_aload_n (pc' := 60) rfl dX5_rotate_59 rfl ?_
      refine sw_alen (pc' := 61) rfl dX5_rotate_60 ((hF a (by omega)).trans hB) (by decide +kernel) (Or.inl (by show 100 ≤ _; omega)) ?_
      refine sw_iadd (pc' := 62) rfl dX5_rotate_61 ?_
      refine sw_aload_n (pc' := 63) rfl dX5_rotate_62 rfl ?_
      refine sw_alen (pc' := 64) rfl dX5_rotate_63 ((hF a (by omega)).trans hB) (by decide +kernel) (Or.inl (by show 100 ≤ _; omega)) ?_
      refine sw_irem (pc' := 65) rfl dX5_rotate_64 (fun e => by have := (nI_eq (b := 0) (by omega) (by decide +kernel)).mp e; omega) ?_
      rw [hrot j (by omega)]
      refine sw_aload_n (pc' := 66) rfl dX5_rotate_65 rfl ?_
      refine sw_iload (pc' := 68) rfl dX5_rotate_66 rfl ?_
      refine sw_iald (j := j) (pc' := 69) rfl dX5_rotate_68 ((hF a (by omega)).trans hB) rfl (by omega) (by omega) ?_
      rw [hg j (by omega)]
      refine sw_iast (j := wrN y (σ.2.1 k) j) (pc' := 70) rfl dX5_rotate_69 hr (by show 100 ≤ _; omega) rfl (Nat.lt_of_lt_of_le (wrN_lt hy (by omega)) (by omega)) (by decide +kernel) ?_
      refine sw_nm (fun g2 eg2 => ?_)
      have zg2 := (congrFun eg2 (137 + k)).trans (up_s (h := q) (i := (137 + k)))
      refine sw_iinc (pc' := 73) (lv' := [(4, _), (3, _), (0, _), (1, _), (2, _)]) (v := nI (j + 1)) rfl dX5_rotate_70 rfl (nI_1 j) (by decide +kernel) rfl ?_
      refine sw_goto (tgt := 39) dX5_rotate_73 (by decide +kernel) ?_
      exact ih (j + 1) g2 _ (by omega) zg2 (fun i hi => (Nat.lt_or_ge i j).elim (fun g => (up_n (fun e => by have := wrN_inj hy (by omega) (by omega) e; omega)).trans (hf i g)) (fun g => (show i = j by omega) ▸ up_s)) (fun i h1 => (congrFun eg2 i).trans ((up_n h1).trans (hF i h1)))
theorem q_rotate {h : AH} {d bc bs n : Nat} {σ : CS} {th : Int32} {a x : Int32} (hR : RMo h σ th) (hI : Iv σ) (hn : 159 ≤ n) (hd : 8 ≤ d) (h1 : 1 ≤ bc) (h2 : 12 ≤ bs)  : SM SR0 MX5_rotate d bc bs [.ref 135, .int a, .int x] h n (PM h n (tc sI sA) (opRotate σ a x)) := by
  obtain ⟨ρ, τ, hM, hA⟩ := hR
  obtain ⟨G0, hG0, eG0⟩ := hM.out
  refine sm_of pn_OverwalksModel rfl (Nat.le_of_ble_eq_true rfl) ?_
  rcases idxN 11 (by decide +kernel) a with qk1 | ⟨k, hk, rfl⟩
  · refine sw_aload_n (pc' := 1) rfl dX5_rotate_0 rfl ?_
    refine sw_iload_n (pc' := 2) rfl dX5_rotate_1 rfl ?_
    refine sw_S (M' := MX5_isNoRow) (d' := d - 1) (bc' := 0) (bs' := 0) (as := [_]) dX5_rotate_2 w_1267 ok_X5_isNoRow (q_isNoRow (by omega)) (by omega) (Nat.le_of_ble_eq_true rfl) (Nat.zero_le _) (Nat.zero_le _) (fun E h' n' _ z => det_x z) (det_k ?_)
    rw [show nrB a = true from nrB_x qk1]
    show SW _ _ _ _ _ _ _ (.int 1 :: _) _ _ _
    refine sw_iload_n (pc' := 6) rfl dX5_rotate_5 rfl ?_
    refine sw_bipush (pc' := 8) (v := (-20)) rfl dX5_rotate_6 (by decide +kernel) ?_
    refine sw_bipush (pc' := 10) (v := 20) rfl dX5_rotate_8 (by decide +kernel) ?_
    refine sw_S (M' := MX5_isIn) (d' := d - 1) (bc' := 0) (bs' := 0) (as := [_, _, _]) dX5_rotate_10 w_1168 ok_X5_isIn (q_isIn) (by omega) (Nat.le_of_ble_eq_true rfl) (Nat.zero_le _) (Nat.zero_le _) (fun E h' n' _ z => det_x z) (det_k ?_)
    refine sw_if_ne (pc' := 16) (tgt := 20) rfl dX5_rotate_13 (by decide +kernel) (fun c13 => ?_) (fun c13 => ?_)
    · refine sw_iconst (pc' := 21) (v := 0) rfl dX5_rotate_20 (by decide +kernel) ?_
      refine sw_V (M' := MX5_isStopped_) (d' := d - 1) (bc' := 0) (bs' := 0) (ci := 6) (as := [_, _]) dX5_rotate_21 w_1215 ok_X5_isStopped_ (q_isStopped2 (a := true) (b := false) hM hA (by omega)) hM.ob rfl (by omega) (Nat.le_of_ble_eq_true rfl) (Nat.zero_le _) (Nat.zero_le _) (fun E h' n' _ z => rp_x z) (rp_k (fun p21 p21ρ p21τ p21M p21A p21F => ?_))
      obtain ⟨Gp21, hGp21, eGp21⟩ := p21M.out
      show SW _ _ _ _ _ _ _ (.int 1 :: _) _ _ _
      refine sw_if_eq (pc' := 27) (tgt := 29) rfl dX5_rotate_24 (by decide +kernel) (fun c24 => ?_) (fun c24 => ?_)
      · exact absurd c24 (by decide +kernel)
      · refine sw_iconst (pc' := 28) (v := 0) rfl dX5_rotate_27 (by decide +kernel) ?_
        refine sw_ret (v := some _) ⟨dX5_rotate_28, _, rfl, rfl⟩ ?_
        rw [opRotate, onRw_x qk1]
        exact pm_x tc_1 p21M p21A p21F (Nat.le_refl _)
    · refine sw_iconst (pc' := 17) (v := 1) rfl dX5_rotate_16 (by decide +kernel) ?_
      refine sw_goto (tgt := 21) dX5_rotate_17 (by decide +kernel) ?_
      refine sw_V (M' := MX5_isStopped_) (d' := d - 1) (bc' := 0) (bs' := 0) (ci := 6) (as := [_, _]) dX5_rotate_21 w_1215 ok_X5_isStopped_ (q_isStopped2 (a := true) (b := true) hM hA (by omega)) hM.ob rfl (by omega) (Nat.le_of_ble_eq_true rfl) (Nat.zero_le _) (Nat.zero_le _) (fun E h' n' _ z => rp_x z) (rp_k (fun p21 p21ρ p21τ p21M p21A p21F => ?_))
      obtain ⟨Gp21, hGp21, eGp21⟩ := p21M.out
      show SW _ _ _ _ _ _ _ (.int 1 :: _) _ _ _
      refine sw_if_eq (pc' := 27) (tgt := 29) rfl dX5_rotate_24 (by decide +kernel) (fun c24 => ?_) (fun c24 => ?_)
      · exact absurd c24 (by decide +kernel)
      · refine sw_iconst (pc' := 28) (v := 0) rfl dX5_rotate_27 (by decide +kernel) ?_
        refine sw_ret (v := some _) ⟨dX5_rotate_28, _, rfl, rfl⟩ ?_
        rw [opRotate, onRw_x qk1]
        exact pm_x tc_1 p21M p21A p21F (Nat.le_refl _)
  rcases Classical.em (kP (kdO k) = false) with qk | qk
  · refine sw_aload_n (pc' := 1) rfl dX5_rotate_0 rfl ?_
    refine sw_iload_n (pc' := 2) rfl dX5_rotate_1 rfl ?_
    refine sw_S (M' := MX5_isNoRow) (d' := d - 1) (bc' := 0) (bs' := 0) (as := [_]) dX5_rotate_2 w_1267 ok_X5_isNoRow (q_isNoRow (by omega)) (by omega) (Nat.le_of_ble_eq_true rfl) (Nat.zero_le _) (Nat.zero_le _) (fun E h' n' _ z => det_x z) (det_k ?_)
    rw [show nrB (nI k) = true from nrB_y hk qk]
    show SW _ _ _ _ _ _ _ (.int 1 :: _) _ _ _
    refine sw_iload_n (pc' := 6) rfl dX5_rotate_5 rfl ?_
    refine sw_bipush (pc' := 8) (v := (-20)) rfl dX5_rotate_6 (by decide +kernel) ?_
    refine sw_bipush (pc' := 10) (v := 20) rfl dX5_rotate_8 (by decide +kernel) ?_
    refine sw_S (M' := MX5_isIn) (d' := d - 1) (bc' := 0) (bs' := 0) (as := [_, _, _]) dX5_rotate_10 w_1168 ok_X5_isIn (q_isIn) (by omega) (Nat.le_of_ble_eq_true rfl) (Nat.zero_le _) (Nat.zero_le _) (fun E h' n' _ z => det_x z) (det_k ?_)
    refine sw_if_ne (pc' := 16) (tgt := 20) rfl dX5_rotate_13 (by decide +kernel) (fun c13 => ?_) (fun c13 => ?_)
    · refine sw_iconst (pc' := 21) (v := 0) rfl dX5_rotate_20 (by decide +kernel) ?_
      refine sw_V (M' := MX5_isStopped_) (d' := d - 1) (bc' := 0) (bs' := 0) (ci := 6) (as := [_, _]) dX5_rotate_21 w_1215 ok_X5_isStopped_ (q_isStopped2 (a := true) (b := false) hM hA (by omega)) hM.ob rfl (by omega) (Nat.le_of_ble_eq_true rfl) (Nat.zero_le _) (Nat.zero_le _) (fun E h' n' _ z => rp_x z) (rp_k (fun p21 p21ρ p21τ p21M p21A p21F => ?_))
      obtain ⟨Gp21, hGp21, eGp21⟩ := p21M.out
      show SW _ _ _ _ _ _ _ (.int 1 :: _) _ _ _
      refine sw_if_eq (pc' := 27) (tgt := 29) rfl dX5_rotate_24 (by decide +kernel) (fun c24 => ?_) (fun c24 => ?_)
      · exact absurd c24 (by decide +kernel)
      · refine sw_iconst (pc' := 28) (v := 0) rfl dX5_rotate_27 (by decide +kernel) ?_
        refine sw_ret (v := some _) ⟨dX5_rotate_28, _, rfl, rfl⟩ ?_
        rw [opRotate, onRw_y hk qk]
        exact pm_x tc_1 p21M p21A p21F (Nat.le_refl _)
    · refine sw_iconst (pc' := 17) (v := 1) rfl dX5_rotate_16 (by decide +kernel) ?_
      refine sw_goto (tgt := 21) dX5_rotate_17 (by decide +kernel) ?_
      refine sw_V (M' := MX5_isStopped_) (d' := d - 1) (bc' := 0) (bs' := 0) (ci := 6) (as := [_, _]) dX5_rotate_21 w_1215 ok_X5_isStopped_ (q_isStopped2 (a := true) (b := true) hM hA (by omega)) hM.ob rfl (by omega) (Nat.le_of_ble_eq_true rfl) (Nat.zero_le _) (Nat.zero_le _) (fun E h' n' _ z => rp_x z) (rp_k (fun p21 p21ρ p21τ p21M p21A p21F => ?_))
      obtain ⟨Gp21, hGp21, eGp21⟩ := p21M.out
      show SW _ _ _ _ _ _ _ (.int 1 :: _) _ _ _
      refine sw_if_eq (pc' := 27) (tgt := 29) rfl dX5_rotate_24 (by decide +kernel) (fun c24 => ?_) (fun c24 => ?_)
      · exact absurd c24 (by decide +kernel)
      · refine sw_iconst (pc' := 28) (v := 0) rfl dX5_rotate_27 (by decide +kernel) ?_
        refine sw_ret (v := some _) ⟨dX5_rotate_28, _, rfl, rfl⟩ ?_
        rw [opRotate, onRw_y hk qk]
        exact pm_x tc_1 p21M p21A p21F (Nat.le_refl _)
  have hck := hI.1 k hk
  rcases Classical.em (x < -20 ∨ 20 < x) with qx | qx
  · refine sw_aload_n (pc' := 1) rfl dX5_rotate_0 rfl ?_
    refine sw_iload_n (pc' := 2) rfl dX5_rotate_1 rfl ?_
    refine sw_S (M' := MX5_isNoRow) (d' := d - 1) (bc' := 0) (bs' := 0) (as := [_]) dX5_rotate_2 w_1267 ok_X5_isNoRow (q_isNoRow (by omega)) (by omega) (Nat.le_of_ble_eq_true rfl) (Nat.zero_le _) (Nat.zero_le _) (fun E h' n' _ z => det_x z) (det_k ?_)
    rw [show nrB (nI k) = false from nrB_k hk qk]
    show SW _ _ _ _ _ _ _ (.int 0 :: _) _ _ _
    refine sw_iload_n (pc' := 6) rfl dX5_rotate_5 rfl ?_
    refine sw_bipush (pc' := 8) (v := (-20)) rfl dX5_rotate_6 (by decide +kernel) ?_
    refine sw_bipush (pc' := 10) (v := 20) rfl dX5_rotate_8 (by decide +kernel) ?_
    refine sw_S (M' := MX5_isIn) (d' := d - 1) (bc' := 0) (bs' := 0) (as := [_, _, _]) dX5_rotate_10 w_1168 ok_X5_isIn (q_isIn) (by omega) (Nat.le_of_ble_eq_true rfl) (Nat.zero_le _) (Nat.zero_le _) (fun E h' n' _ z => det_x z) (det_k ?_)
    rw [show inB x (-20) 20 = false from inB_x qx]
    show SW _ _ _ _ _ _ _ (.int 0 :: _) _ _ _
    refine sw_if_ne (pc' := 16) (tgt := 20) rfl dX5_rotate_13 (by decide +kernel) (fun c13 => ?_) (fun c13 => ?_)
    · exact absurd c13 (by decide +kernel)
    · refine sw_iconst (pc' := 17) (v := 1) rfl dX5_rotate_16 (by decide +kernel) ?_
      refine sw_goto (tgt := 21) dX5_rotate_17 (by decide +kernel) ?_
      refine sw_V (M' := MX5_isStopped_) (d' := d - 1) (bc' := 0) (bs' := 0) (ci := 6) (as := [_, _]) dX5_rotate_21 w_1215 ok_X5_isStopped_ (q_isStopped2 (a := false) (b := true) hM hA (by omega)) hM.ob rfl (by omega) (Nat.le_of_ble_eq_true rfl) (Nat.zero_le _) (Nat.zero_le _) (fun E h' n' _ z => rp_x z) (rp_k (fun p21 p21ρ p21τ p21M p21A p21F => ?_))
      obtain ⟨Gp21, hGp21, eGp21⟩ := p21M.out
      show SW _ _ _ _ _ _ _ (.int 1 :: _) _ _ _
      refine sw_if_eq (pc' := 27) (tgt := 29) rfl dX5_rotate_24 (by decide +kernel) (fun c24 => ?_) (fun c24 => ?_)
      · exact absurd c24 (by decide +kernel)
      · refine sw_iconst (pc' := 28) (v := 0) rfl dX5_rotate_27 (by decide +kernel) ?_
        refine sw_ret (v := some _) ⟨dX5_rotate_28, _, rfl, rfl⟩ ?_
        rw [opRotate, onRw_k hk qk, if_pos qx]
        exact pm_x (tc_2 sAI) p21M p21A p21F (Nat.le_refl _)
  refine sw_aload_n (pc' := 1) rfl dX5_rotate_0 rfl ?_
  refine sw_iload_n (pc' := 2) rfl dX5_rotate_1 rfl ?_
  refine sw_S (M' := MX5_isNoRow) (d' := d - 1) (bc' := 0) (bs' := 0) (as := [_]) dX5_rotate_2 w_1267 ok_X5_isNoRow (q_isNoRow (by omega)) (by omega) (Nat.le_of_ble_eq_true rfl) (Nat.zero_le _) (Nat.zero_le _) (fun E h' n' _ z => det_x z) (det_k ?_)
  rw [show nrB (nI k) = false from nrB_k hk qk]
  show SW _ _ _ _ _ _ _ (.int 0 :: _) _ _ _
  refine sw_iload_n (pc' := 6) rfl dX5_rotate_5 rfl ?_
  refine sw_bipush (pc' := 8) (v := (-20)) rfl dX5_rotate_6 (by decide +kernel) ?_
  refine sw_bipush (pc' := 10) (v := 20) rfl dX5_rotate_8 (by decide +kernel) ?_
  refine sw_S (M' := MX5_isIn) (d' := d - 1) (bc' := 0) (bs' := 0) (as := [_, _, _]) dX5_rotate_10 w_1168 ok_X5_isIn (q_isIn) (by omega) (Nat.le_of_ble_eq_true rfl) (Nat.zero_le _) (Nat.zero_le _) (fun E h' n' _ z => det_x z) (det_k ?_)
  rw [show inB x (-20) 20 = true from inB_n qx]
  show SW _ _ _ _ _ _ _ (.int 1 :: _) _ _ _
  refine sw_if_ne (pc' := 16) (tgt := 20) rfl dX5_rotate_13 (by decide +kernel) (fun c13 => ?_) (fun c13 => ?_)
  · refine sw_iconst (pc' := 21) (v := 0) rfl dX5_rotate_20 (by decide +kernel) ?_
    refine sw_V (M' := MX5_isStopped_) (d' := d - 1) (bc' := 0) (bs' := 0) (ci := 6) (as := [_, _]) dX5_rotate_21 w_1215 ok_X5_isStopped_ (q_isStopped2 (a := false) (b := false) hM hA (by omega)) hM.ob rfl (by omega) (Nat.le_of_ble_eq_true rfl) (Nat.zero_le _) (Nat.zero_le _) (fun E h' n' _ z => rp_x z) (rp_k (fun p21 p21ρ p21τ p21M p21A p21F => ?_))
    obtain ⟨Gp21, hGp21, eGp21⟩ := p21M.out
    show SW _ _ _ _ _ _ _ (.int 0 :: _) _ _ _
    refine sw_if_eq (pc' := 27) (tgt := 29) rfl dX5_rotate_24 (by decide +kernel) (fun c24 => ?_) (fun c24 => ?_)
    · refine sw_aload_n (pc' := 30) rfl dX5_rotate_29 rfl ?_
      refine sw_iload_n (pc' := 31) rfl dX5_rotate_30 rfl ?_
      refine sw_iconst (pc' := 32) (v := 0) rfl dX5_rotate_31 (by decide +kernel) ?_
      refine sw_V (M' := MX5_picture) (d' := d - 1) (bc' := 1) (bs' := 12) (ci := 6) (as := [_, _]) dX5_rotate_32 w_1255 ok_X5_picture (q_picture p21M p21A (k := k) (by omega) (hI.1 k (by omega)) (by omega) (by omega) (by omega)) p21M.ob rfl (by omega) (Nat.le_of_ble_eq_true rfl) (by omega) (by omega) (fun E h' n' _ z => na_x z) (na_k (fun p32 p32f p32N p32g p32F => ?_))
      have p32M := p21M.fr (fun i h1 h2 => p32F i (by omega))
      obtain ⟨Gp32, hGp32, eGp32⟩ := p32M.out
      refine sw_astore_n (pc' := 36) (lv' := [(3, _), (0, _), (1, _), (2, _)]) rfl dX5_rotate_35 (by decide +kernel) rfl ?_
      refine sw_iconst (pc' := 37) (v := 0) rfl dX5_rotate_36 (by decide +kernel) ?_
      refine sw_istore (pc' := 39) (lv' := [(4, _), (3, _), (0, _), (1, _), (2, _)]) rfl dX5_rotate_37 (by decide +kernel) rfl ?_
      refine ql_rotate p32M p21A hk hck (a := n) (by omega) p32N p32g (fun h0 => (rot_k qx h0 hck).1) (fun j hj => (rot_k qx (by omega) hck).2 j hj) (fun p r hr hq hF => ?_) (σ.2.1 k) 0 p32 _ (by omega) (p32M.row hk) (fun i hi => absurd hi (Nat.not_lt_zero _)) (fun _ _ => rfl)
      rw [opRotate, onRw_k hk qk, if_neg qx]
      by_cases c0 : σ.2.1 k = 0
      · rw [if_pos c0]
        exact pm_k (hq _) (p21A.shU (fun j hj => absurd hj (by omega))) ((p21F.tr (fun i q g => p32F i (by omega)) (Nat.le_refl _)).tr (FrM.of1 hF) (Nat.le_refl _)) (Nat.le_succ _)
      rw [if_neg c0]
      have hy := (rot_k qx (Nat.pos_of_ne_zero c0) hck).1
      refine pm_k (hq _) (p21A.shU (fun j hj => ?_)) ((p21F.tr (fun i q g => p32F i (by omega)) (Nat.le_refl _)).tr (FrM.of1 hF) (Nat.le_refl _)) (Nat.le_succ _)
      obtain ⟨i, hi, rfl⟩ := wrN_sur hy hj
      exact (hr i hi).trans (mvO_wr hy hi).symm
    · exact absurd c24 (by decide +kernel)
  · exact absurd c13 (by decide +kernel)
theorem q_pour {h : AH} {d bc bs n : Nat} {σ : CS} {th : Int32} {a b : Int32} (hR : RMo h σ th) (hI : Iv σ) (hn : 159 ≤ n) (hd : 8 ≤ d) (h1 : 1 ≤ bc) (h2 : 12 ≤ bs)  : SM SR0 MX5_pour d bc bs [.ref 135, .int a, .int b] h n (PM h n (tc sI sS) (opPour σ a b)) := by
  obtain ⟨ρ, τ, hM, hA⟩ := hR
  obtain ⟨G0, hG0, eG0⟩ := hM.out
  refine sm_of pn_OverwalksModel rfl (Nat.le_of_ble_eq_true rfl) ?_
  rcases idxN 11 (by decide +kernel) a with qk1 | ⟨k, hk, rfl⟩
  · refine sw_aload_n (pc' := 1) rfl dX5_pour_0 rfl ?_
    refine sw_iload_n (pc' := 2) rfl dX5_pour_1 rfl ?_
    refine sw_S (M' := MX5_isNone) (d' := d - 1) (bc' := 0) (bs' := 0) (as := [_]) dX5_pour_2 w_1165 ok_X5_isNone (q_isNone (by omega)) (by omega) (Nat.le_of_ble_eq_true rfl) (Nat.zero_le _) (Nat.zero_le _) (fun E h' n' _ z => det_x z) (det_k ?_)
    rw [show inB a 0 10 = false from no_x (N := 10) (by decide +kernel) qk1]
    show SW _ _ _ _ _ _ _ (.int 1 :: _) _ _ _
    refine sw_if_ne (pc' := 8) (tgt := 15) rfl dX5_pour_5 (by decide +kernel) (fun c5 => ?_) (fun c5 => ?_)
    · refine sw_iconst (pc' := 16) (v := 1) rfl dX5_pour_15 (by decide +kernel) ?_
      refine sw_goto (tgt := 20) dX5_pour_16 (by decide +kernel) ?_
      refine sw_iload_n (pc' := 21) rfl dX5_pour_20 rfl ?_
      refine sw_S (M' := MX5_isNone) (d' := d - 1) (bc' := 0) (bs' := 0) (as := [_]) dX5_pour_21 w_1165 ok_X5_isNone (q_isNone (by omega)) (by omega) (Nat.le_of_ble_eq_true rfl) (Nat.zero_le _) (Nat.zero_le _) (fun E h' n' _ z => det_x z) (det_k ?_)
      rw [show inB a 0 10 = false from no_x (N := 10) (by decide +kernel) qk1]
      show SW _ _ _ _ _ _ _ (.int 1 :: _) _ _ _
      refine sw_if_ne (pc' := 27) (tgt := 56) rfl dX5_pour_24 (by decide +kernel) (fun c24 => ?_) (fun c24 => ?_)
      · refine sw_iconst (pc' := 57) (v := 0) rfl dX5_pour_56 (by decide +kernel) ?_
        refine sw_V (M' := MX5_isStopped_) (d' := d - 1) (bc' := 0) (bs' := 0) (ci := 6) (as := [_, _]) dX5_pour_57 w_1215 ok_X5_isStopped_ (q_isStopped2 (a := true) (b := false) hM hA (by omega)) hM.ob rfl (by omega) (Nat.le_of_ble_eq_true rfl) (Nat.zero_le _) (Nat.zero_le _) (fun E h' n' _ z => rp_x z) (rp_k (fun p57 p57ρ p57τ p57M p57A p57F => ?_))
        obtain ⟨Gp57, hGp57, eGp57⟩ := p57M.out
        show SW _ _ _ _ _ _ _ (.int 1 :: _) _ _ _
        refine sw_if_eq (pc' := 63) (tgt := 65) rfl dX5_pour_60 (by decide +kernel) (fun c60 => ?_) (fun c60 => ?_)
        · exact absurd c60 (by decide +kernel)
        · refine sw_iconst (pc' := 64) (v := 0) rfl dX5_pour_63 (by decide +kernel) ?_
          refine sw_ret (v := some _) ⟨dX5_pour_64, _, rfl, rfl⟩ ?_
          rw [opPour, onSh_x qk1]
          exact pm_x tc_1 p57M p57A p57F (Nat.le_refl _)
      · exact absurd c24 (by decide +kernel)
    · exact absurd c5 (by decide +kernel)
  have hck := hI.1 k hk
  rcases idxN 11 (by decide +kernel) b with qj1 | ⟨j, hj, rfl⟩
  · refine sw_aload_n (pc' := 1) rfl dX5_pour_0 rfl ?_
    refine sw_iload_n (pc' := 2) rfl dX5_pour_1 rfl ?_
    refine sw_S (M' := MX5_isNone) (d' := d - 1) (bc' := 0) (bs' := 0) (as := [_]) dX5_pour_2 w_1165 ok_X5_isNone (q_isNone (by omega)) (by omega) (Nat.le_of_ble_eq_true rfl) (Nat.zero_le _) (Nat.zero_le _) (fun E h' n' _ z => det_x z) (det_k ?_)
    rw [show inB (nI k) 0 10 = true from inB_k (N := 10) (by omega) (by decide +kernel)]
    show SW _ _ _ _ _ _ _ (.int 0 :: _) _ _ _
    refine sw_if_ne (pc' := 8) (tgt := 15) rfl dX5_pour_5 (by decide +kernel) (fun c5 => ?_) (fun c5 => ?_)
    · exact absurd c5 (by decide +kernel)
    · refine sw_iload_n (pc' := 9) rfl dX5_pour_8 rfl ?_
      refine sw_S (M' := MX5_isNone) (d' := d - 1) (bc' := 0) (bs' := 0) (as := [_]) dX5_pour_9 w_1165 ok_X5_isNone (q_isNone (by omega)) (by omega) (Nat.le_of_ble_eq_true rfl) (Nat.zero_le _) (Nat.zero_le _) (fun E h' n' _ z => det_x z) (det_k ?_)
      rw [show inB b 0 10 = false from no_x (N := 10) (by decide +kernel) qj1]
      show SW _ _ _ _ _ _ _ (.int 1 :: _) _ _ _
      refine sw_if_eq (pc' := 15) (tgt := 19) rfl dX5_pour_12 (by decide +kernel) (fun c12 => ?_) (fun c12 => ?_)
      · exact absurd c12 (by decide +kernel)
      · refine sw_iconst (pc' := 16) (v := 1) rfl dX5_pour_15 (by decide +kernel) ?_
        refine sw_goto (tgt := 20) dX5_pour_16 (by decide +kernel) ?_
        refine sw_iload_n (pc' := 21) rfl dX5_pour_20 rfl ?_
        refine sw_S (M' := MX5_isNone) (d' := d - 1) (bc' := 0) (bs' := 0) (as := [_]) dX5_pour_21 w_1165 ok_X5_isNone (q_isNone (by omega)) (by omega) (Nat.le_of_ble_eq_true rfl) (Nat.zero_le _) (Nat.zero_le _) (fun E h' n' _ z => det_x z) (det_k ?_)
        rw [show inB (nI k) 0 10 = true from inB_k (N := 10) (by omega) (by decide +kernel)]
        show SW _ _ _ _ _ _ _ (.int 0 :: _) _ _ _
        refine sw_if_ne (pc' := 27) (tgt := 56) rfl dX5_pour_24 (by decide +kernel) (fun c24 => ?_) (fun c24 => ?_)
        · exact absurd c24 (by decide +kernel)
        · refine sw_iload_n (pc' := 28) rfl dX5_pour_27 rfl ?_
          refine sw_S (M' := MX5_isNone) (d' := d - 1) (bc' := 0) (bs' := 0) (as := [_]) dX5_pour_28 w_1165 ok_X5_isNone (q_isNone (by omega)) (by omega) (Nat.le_of_ble_eq_true rfl) (Nat.zero_le _) (Nat.zero_le _) (fun E h' n' _ z => det_x z) (det_k ?_)
          rw [show inB b 0 10 = false from no_x (N := 10) (by decide +kernel) qj1]
          show SW _ _ _ _ _ _ _ (.int 1 :: _) _ _ _
          refine sw_if_ne (pc' := 34) (tgt := 56) rfl dX5_pour_31 (by decide +kernel) (fun c31 => ?_) (fun c31 => ?_)
          · refine sw_iconst (pc' := 57) (v := 0) rfl dX5_pour_56 (by decide +kernel) ?_
            refine sw_V (M' := MX5_isStopped_) (d' := d - 1) (bc' := 0) (bs' := 0) (ci := 6) (as := [_, _]) dX5_pour_57 w_1215 ok_X5_isStopped_ (q_isStopped2 (a := true) (b := false) hM hA (by omega)) hM.ob rfl (by omega) (Nat.le_of_ble_eq_true rfl) (Nat.zero_le _) (Nat.zero_le _) (fun E h' n' _ z => rp_x z) (rp_k (fun p57 p57ρ p57τ p57M p57A p57F => ?_))
            obtain ⟨Gp57, hGp57, eGp57⟩ := p57M.out
            show SW _ _ _ _ _ _ _ (.int 1 :: _) _ _ _
            refine sw_if_eq (pc' := 63) (tgt := 65) rfl dX5_pour_60 (by decide +kernel) (fun c60 => ?_) (fun c60 => ?_)
            · exact absurd c60 (by decide +kernel)
            · refine sw_iconst (pc' := 64) (v := 0) rfl dX5_pour_63 (by decide +kernel) ?_
              refine sw_ret (v := some _) ⟨dX5_pour_64, _, rfl, rfl⟩ ?_
              rw [opPour, onSh_k hk, onSh_x qj1]
              exact pm_x tc_1 p57M p57A p57F (Nat.le_refl _)
          · exact absurd c31 (by decide +kernel)
  have hcj := hI.1 j hj
  rcases Classical.em (12 < nI (σ.2.1 j) + nI (σ.2.1 k)) with qr | qr
  · have hroom : 12 < σ.2.1 j + σ.2.1 k := (roomS (by omega) (by omega)).mp qr
    refine sw_aload_n (pc' := 1) rfl dX5_pour_0 rfl ?_
    refine sw_iload_n (pc' := 2) rfl dX5_pour_1 rfl ?_
    refine sw_S (M' := MX5_isNone) (d' := d - 1) (bc' := 0) (bs' := 0) (as := [_]) dX5_pour_2 w_1165 ok_X5_isNone (q_isNone (by omega)) (by omega) (Nat.le_of_ble_eq_true rfl) (Nat.zero_le _) (Nat.zero_le _) (fun E h' n' _ z => det_x z) (det_k ?_)
    rw [show inB (nI k) 0 10 = true from inB_k (N := 10) (by omega) (by decide +kernel)]
    show SW _ _ _ _ _ _ _ (.int 0 :: _) _ _ _
    refine sw_if_ne (pc' := 8) (tgt := 15) rfl dX5_pour_5 (by decide +kernel) (fun c5 => ?_) (fun c5 => ?_)
    · exact absurd c5 (by decide +kernel)
    · refine sw_iload_n (pc' := 9) rfl dX5_pour_8 rfl ?_
      refine sw_S (M' := MX5_isNone) (d' := d - 1) (bc' := 0) (bs' := 0) (as := [_]) dX5_pour_9 w_1165 ok_X5_isNone (q_isNone (by omega)) (by omega) (Nat.le_of_ble_eq_true rfl) (Nat.zero_le _) (Nat.zero_le _) (fun E h' n' _ z => det_x z) (det_k ?_)
      rw [show inB (nI j) 0 10 = true from inB_k (N := 10) (by omega) (by decide +kernel)]
      show SW _ _ _ _ _ _ _ (.int 0 :: _) _ _ _
      refine sw_if_eq (pc' := 15) (tgt := 19) rfl dX5_pour_12 (by decide +kernel) (fun c12 => ?_) (fun c12 => ?_)
      · refine sw_iconst (pc' := 20) (v := 0) rfl dX5_pour_19 (by decide +kernel) ?_
        refine sw_iload_n (pc' := 21) rfl dX5_pour_20 rfl ?_
        refine sw_S (M' := MX5_isNone) (d' := d - 1) (bc' := 0) (bs' := 0) (as := [_]) dX5_pour_21 w_1165 ok_X5_isNone (q_isNone (by omega)) (by omega) (Nat.le_of_ble_eq_true rfl) (Nat.zero_le _) (Nat.zero_le _) (fun E h' n' _ z => det_x z) (det_k ?_)
        rw [show inB (nI k) 0 10 = true from inB_k (N := 10) (by omega) (by decide +kernel)]
        show SW _ _ _ _ _ _ _ (.int 0 :: _) _ _ _
        refine sw_if_ne (pc' := 27) (tgt := 56) rfl dX5_pour_24 (by decide +kernel) (fun c24 => ?_) (fun c24 => ?_)
        · exact absurd c24 (by decide +kernel)
        · refine sw_iload_n (pc' := 28) rfl dX5_pour_27 rfl ?_
          refine sw_S (M' := MX5_isNone) (d' := d - 1) (bc' := 0) (bs' := 0) (as := [_]) dX5_pour_28 w_1165 ok_X5_isNone (q_isNone (by omega)) (by omega) (Nat.le_of_ble_eq_true rfl) (Nat.zero_le _) (Nat.zero_le _) (fun E h' n' _ z => det_x z) (det_k ?_)
          rw [show inB (nI j) 0 10 = true from inB_k (N := 10) (by omega) (by decide +kernel)]
          show SW _ _ _ _ _ _ _ (.int 0 :: _) _ _ _
          refine sw_if_ne (pc' := 34) (tgt := 56) rfl dX5_pour_31 (by decide +kernel) (fun c31 => ?_) (fun c31 => ?_)
          · exact absurd c31 (by decide +kernel)
          · refine sw_aload_n (pc' := 35) rfl dX5_pour_34 rfl ?_
            refine sw_getf (ci := 6) (k := 4) (pc' := 38) rfl dX5_pour_35 (by decide +kernel) w_1117 hM.ob rfl ?_
            refine sw_iload_n (pc' := 39) rfl dX5_pour_38 rfl ?_
            refine sw_iald (j := k) (pc' := 40) rfl dX5_pour_39 hM.sz rfl (by omega) (by decide +kernel) ?_
            refine sw_aload_n (pc' := 41) rfl dX5_pour_40 rfl ?_
            refine sw_getf (ci := 6) (k := 4) (pc' := 44) rfl dX5_pour_41 (by decide +kernel) w_1117 hM.ob rfl ?_
            refine sw_iload_n (pc' := 45) rfl dX5_pour_44 rfl ?_
            refine sw_iald (j := j) (pc' := 46) rfl dX5_pour_45 hM.sz rfl (by omega) (by decide +kernel) ?_
            refine sw_iadd (pc' := 47) rfl dX5_pour_46 ?_
            rw [show (nI (σ.2.1 k)) + (nI (σ.2.1 j)) = nI (σ.2.1 k + σ.2.1 j) from nI_add _ _]
            refine sw_bipush (pc' := 49) (v := 12) rfl dX5_pour_47 (by decide +kernel) ?_
            refine sw_icmp_le (pc' := 52) (tgt := 56) rfl dX5_pour_49 (by decide +kernel) (fun c49 => ?_) (fun c49 => ?_)
            · exact absurd ((le12 (by omega)).mp c49) (by omega)
            · refine sw_iconst (pc' := 53) (v := 1) rfl dX5_pour_52 (by decide +kernel) ?_
              refine sw_goto (tgt := 57) dX5_pour_53 (by decide +kernel) ?_
              refine sw_V (M' := MX5_isStopped_) (d' := d - 1) (bc' := 0) (bs' := 0) (ci := 6) (as := [_, _]) dX5_pour_57 w_1215 ok_X5_isStopped_ (q_isStopped2 (a := false) (b := true) hM hA (by omega)) hM.ob rfl (by omega) (Nat.le_of_ble_eq_true rfl) (Nat.zero_le _) (Nat.zero_le _) (fun E h' n' _ z => rp_x z) (rp_k (fun p57 p57ρ p57τ p57M p57A p57F => ?_))
              obtain ⟨Gp57, hGp57, eGp57⟩ := p57M.out
              show SW _ _ _ _ _ _ _ (.int 1 :: _) _ _ _
              refine sw_if_eq (pc' := 63) (tgt := 65) rfl dX5_pour_60 (by decide +kernel) (fun c60 => ?_) (fun c60 => ?_)
              · exact absurd c60 (by decide +kernel)
              · refine sw_iconst (pc' := 64) (v := 0) rfl dX5_pour_63 (by decide +kernel) ?_
                refine sw_ret (v := some _) ⟨dX5_pour_64, _, rfl, rfl⟩ ?_
                rw [opPour, onSh_k hk, onSh_k hj, if_pos qr]
                exact pm_x (tc_2 sSI) p57M p57A p57F (Nat.le_refl _)
      · exact absurd c12 (by decide +kernel)
  have hroom : σ.2.1 j + σ.2.1 k ≤ 12 := Nat.le_of_not_lt (fun g => qr ((roomS (by omega) (by omega)).mpr g))
  refine sw_aload_n (pc' := 1) rfl dX5_pour_0 rfl ?_
  refine sw_iload_n (pc' := 2) rfl dX5_pour_1 rfl ?_
  refine sw_S (M' := MX5_isNone) (d' := d - 1) (bc' := 0) (bs' := 0) (as := [_]) dX5_pour_2 w_1165 ok_X5_isNone (q_isNone (by omega)) (by omega) (Nat.le_of_ble_eq_true rfl) (Nat.zero_le _) (Nat.zero_le _) (fun E h' n' _ z => det_x z) (det_k ?_)
  rw [show inB (nI k) 0 10 = true from inB_k (N := 10) (by omega) (by decide +kernel)]
  show SW _ _ _ _ _ _ _ (.int 0 :: _) _ _ _
  refine sw_if_ne (pc' := 8) (tgt := 15) rfl dX5_pour_5 (by decide +kernel) (fun c5 => ?_) (fun c5 => ?_)
  · exact absurd c5 (by decide +kernel)
  · refine sw_iload_n (pc' := 9) rfl dX5_pour_8 rfl ?_
    refine sw_S (M' := MX5_isNone) (d' := d - 1) (bc' := 0) (bs' := 0) (as := [_]) dX5_pour_9 w_1165 ok_X5_isNone (q_isNone (by omega)) (by omega) (Nat.le_of_ble_eq_true rfl) (Nat.zero_le _) (Nat.zero_le _) (fun E h' n' _ z => det_x z) (det_k ?_)
    rw [show inB (nI j) 0 10 = true from inB_k (N := 10) (by omega) (by decide +kernel)]
    show SW _ _ _ _ _ _ _ (.int 0 :: _) _ _ _
    refine sw_if_eq (pc' := 15) (tgt := 19) rfl dX5_pour_12 (by decide +kernel) (fun c12 => ?_) (fun c12 => ?_)
    · refine sw_iconst (pc' := 20) (v := 0) rfl dX5_pour_19 (by decide +kernel) ?_
      refine sw_iload_n (pc' := 21) rfl dX5_pour_20 rfl ?_
      refine sw_S (M' := MX5_isNone) (d' := d - 1) (bc' := 0) (bs' := 0) (as := [_]) dX5_pour_21 w_1165 ok_X5_isNone (q_isNone (by omega)) (by omega) (Nat.le_of_ble_eq_true rfl) (Nat.zero_le _) (Nat.zero_le _) (fun E h' n' _ z => det_x z) (det_k ?_)
      rw [show inB (nI k) 0 10 = true from inB_k (N := 10) (by omega) (by decide +kernel)]
      show SW _ _ _ _ _ _ _ (.int 0 :: _) _ _ _
      refine sw_if_ne (pc' := 27) (tgt := 56) rfl dX5_pour_24 (by decide +kernel) (fun c24 => ?_) (fun c24 => ?_)
      · exact absurd c24 (by decide +kernel)
      · refine sw_iload_n (pc' := 28) rfl dX5_pour_27 rfl ?_
        refine sw_S (M' := MX5_isNone) (d' := d - 1) (bc' := 0) (bs' := 0) (as := [_]) dX5_pour_28 w_1165 ok_X5_isNone (q_isNone (by omega)) (by omega) (Nat.le_of_ble_eq_true rfl) (Nat.zero_le _) (Nat.zero_le _) (fun E h' n' _ z => det_x z) (det_k ?_)
        rw [show inB (nI j) 0 10 = true from inB_k (N := 10) (by omega) (by decide +kernel)]
        show SW _ _ _ _ _ _ _ (.int 0 :: _) _ _ _
        refine sw_if_ne (pc' := 34) (tgt := 56) rfl dX5_pour_31 (by decide +kernel) (fun c31 => ?_) (fun c31 => ?_)
        · exact absurd c31 (by decide +kernel)
        · refine sw_aload_n (pc' := 35) rfl dX5_pour_34 rfl ?_
          refine sw_getf (ci := 6) (k := 4) (pc' := 38) rfl dX5_pour_35 (by decide +kernel) w_1117 hM.ob rfl ?_
          refine sw_iload_n (pc' := 39) rfl dX5_pour_38 rfl ?_
          refine sw_iald (j := k) (pc' := 40) rfl dX5_pour_39 hM.sz rfl (by omega) (by decide +kernel) ?_
          refine sw_aload_n (pc' := 41) rfl dX5_pour_40 rfl ?_
          refine sw_getf (ci := 6) (k := 4) (pc' := 44) rfl dX5_pour_41 (by decide +kernel) w_1117 hM.ob rfl ?_
          refine sw_iload_n (pc' := 45) rfl dX5_pour_44 rfl ?_
          refine sw_iald (j := j) (pc' := 46) rfl dX5_pour_45 hM.sz rfl (by omega) (by decide +kernel) ?_
          refine sw_iadd (pc' := 47) rfl dX5_pour_46 ?_
          rw [show (nI (σ.2.1 k)) + (nI (σ.2.1 j)) = nI (σ.2.1 k + σ.2.1 j) from nI_add _ _]
          refine sw_bipush (pc' := 49) (v := 12) rfl dX5_pour_47 (by decide +kernel) ?_
          refine sw_icmp_le (pc' := 52) (tgt := 56) rfl dX5_pour_49 (by decide +kernel) (fun c49 => ?_) (fun c49 => ?_)
          · refine sw_iconst (pc' := 57) (v := 0) rfl dX5_pour_56 (by decide +kernel) ?_
            refine sw_V (M' := MX5_isStopped_) (d' := d - 1) (bc' := 0) (bs' := 0) (ci := 6) (as := [_, _]) dX5_pour_57 w_1215 ok_X5_isStopped_ (q_isStopped2 (a := false) (b := false) hM hA (by omega)) hM.ob rfl (by omega) (Nat.le_of_ble_eq_true rfl) (Nat.zero_le _) (Nat.zero_le _) (fun E h' n' _ z => rp_x z) (rp_k (fun p57 p57ρ p57τ p57M p57A p57F => ?_))
            obtain ⟨Gp57, hGp57, eGp57⟩ := p57M.out
            show SW _ _ _ _ _ _ _ (.int 0 :: _) _ _ _
            refine sw_if_eq (pc' := 63) (tgt := 65) rfl dX5_pour_60 (by decide +kernel) (fun c60 => ?_) (fun c60 => ?_)
            · refine sw_iload_n (pc' := 66) rfl dX5_pour_65 rfl ?_
              refine sw_S (M' := MX5_isTable) (d' := d - 1) (bc' := 0) (bs' := 0) (as := [_]) dX5_pour_66 w_1178 ok_X5_isTable (q_isTable) (by omega) (Nat.le_of_ble_eq_true rfl) (Nat.zero_le _) (Nat.zero_le _) (fun E h' n' _ z => det_x z) (det_k ?_)
              rw [tb_k (k := j) (by omega)]
              refine sw_if_ne (pc' := 72) (tgt := 87) rfl dX5_pour_69 (by decide +kernel) (fun c69 => ?_) (fun c69 => ?_)
              · refine sw_aload_n (pc' := 88) rfl dX5_pour_87 rfl ?_
                refine sw_V (M' := MX5_no) (d' := d - 1) (bc' := 0) (bs' := 0) (ci := 6) (as := []) dX5_pour_88 w_1184 ok_X5_no (q_no p57M p57A) p57M.ob rfl (by omega) (Nat.le_of_ble_eq_true rfl) (Nat.zero_le _) (Nat.zero_le _) (fun E h' n' _ z => rp_x z) (rp_k (fun p88 p88ρ p88τ p88M p88A p88F => ?_))
                obtain ⟨Gp88, hGp88, eGp88⟩ := p88M.out
                refine sw_ret (v := some _) ⟨dX5_pour_91, _, rfl, rfl⟩ ?_
                rw [opPour, onSh_k hk, onSh_k hj, if_neg qr, if_pos (cpB_1 (of_decide_eq_true (bI_1 c69)))]
                exact pm_k p88M p88A (p57F.tr p88F (Nat.le_refl _)) (Nat.le_refl _)
              · refine sw_aload_n (pc' := 73) rfl dX5_pour_72 rfl ?_
                refine sw_iload_n (pc' := 74) rfl dX5_pour_73 rfl ?_
                refine sw_V (M' := MX5_hasNothing) (d' := d - 1) (bc' := 0) (bs' := 0) (ci := 6) (as := [_]) dX5_pour_74 w_1251 ok_X5_hasNothing (q_hasNothing p57M p57A (k := k) (by omega) (hI.1 k (by omega)) (by omega)) p57M.ob rfl (by omega) (Nat.le_of_ble_eq_true rfl) (Nat.zero_le _) (Nat.zero_le _) (fun E h' n' _ z => det_x z) (det_k ?_)
                refine sw_if_eq (pc' := 80) (tgt := 92) rfl dX5_pour_77 (by decide +kernel) (fun c77 => ?_) (fun c77 => ?_)
                · refine sw_aload_n (pc' := 93) rfl dX5_pour_92 rfl ?_
                  refine sw_iload_n (pc' := 94) rfl dX5_pour_93 rfl ?_
                  refine sw_iconst (pc' := 95) (v := 0) rfl dX5_pour_94 (by decide +kernel) ?_
                  refine sw_V (M' := MX5_picture) (d' := d - 1) (bc' := 1) (bs' := 12) (ci := 6) (as := [_, _]) dX5_pour_95 w_1255 ok_X5_picture (q_picture p57M p57A (k := k) (by omega) (hI.1 k (by omega)) (by omega) (by omega) (by omega)) p57M.ob rfl (by omega) (Nat.le_of_ble_eq_true rfl) (by omega) (by omega) (fun E h' n' _ z => na_x z) (na_k (fun p95 p95f p95N p95g p95F => ?_))
                  have p95M := p57M.fr (fun i h1 h2 => p95F i (by omega))
                  obtain ⟨Gp95, hGp95, eGp95⟩ := p95M.out
                  refine sw_astore_n (pc' := 99) (lv' := [(3, _), (0, _), (1, _), (2, _)]) rfl dX5_pour_98 (by decide +kernel) rfl ?_
                  refine sw_aload_n (pc' := 100) rfl dX5_pour_99 rfl ?_
                  refine sw_iload_n (pc' := 101) rfl dX5_pour_100 rfl ?_
                  refine sw_aload_n (pc' := 102) rfl dX5_pour_101 rfl ?_
                  refine sw_aload_n (pc' := 103) rfl dX5_pour_102 rfl ?_
                  refine sw_alen (pc' := 104) rfl dX5_pour_103 p95N (by decide +kernel) (Or.inl (by show 100 ≤ _; omega)) ?_
                  have eP104 : pbM k j 0 (σ.2.1 k) false σ = caM j p95f 0 (σ.2.1 k) false σ := (pb_ca (s := k) (j := j) (f := σ.1 k) (c := σ.2.1 k) (by omega) (by omega) 0 (σ.2.1 k) 0 false σ (fun _ _ => rfl) (Nat.le_refl _) (show σ.2.1 k ≤ 12 by omega) (by omega) (by omega)).trans (caM_cg (fun i _ hi => (congrArg (σ.1 k) (Nat.zero_add i)).trans (p95g i (by omega)).symm))
                  refine sw_V (M' := MX5_comeAll) (d' := d - 1) (bc' := 0) (bs' := 0) (ci := 6) (as := [_, _, _]) dX5_pour_104 w_1207 ok_X5_comeAll (q_comeAll p95M p57A (k := j) (m9 := σ.2.1 k) (by omega) (fun e => e ▸ hI.2.2.2.1) (by omega) (by omega) (by omega) p95N (by omega) (Nat.le_refl _) (by omega)) p95M.ob rfl (by omega) (Nat.le_of_ble_eq_true rfl) (Nat.zero_le _) (Nat.zero_le _) (fun E h' n' _ z => rp_x z) (rp_k (fun p104 p104ρ p104τ p104M p104A p104F => ?_))
                  obtain ⟨Gp104, hGp104, eGp104⟩ := p104M.out
                  refine sw_ret (v := some _) ⟨dX5_pour_107, _, rfl, rfl⟩ ?_
                  rw [opPour, onSh_k hk, onSh_k hj, if_neg qr, if_neg (fun e => Bool.noConfusion (e.symm.trans (cpB_f (of_decide_eq_false (bI_0 c69)) (nnB_f1 (bI_0 c77))))), eP104]
                  exact pm_k p104M p104A ((p57F.tr (fun i q g => p95F i (by omega)) (Nat.le_refl _)).tr p104F (Nat.le_succ _)) (Nat.le_succ _)
                · refine sw_iload_n (pc' := 81) rfl dX5_pour_80 rfl ?_
                  refine sw_S (M' := MX5_takesNothing) (d' := d - 1) (bc' := 0) (bs' := 0) (as := [_]) dX5_pour_81 w_1181 ok_X5_takesNothing (q_takesNothing (by omega)) (by omega) (Nat.le_of_ble_eq_true rfl) (Nat.zero_le _) (Nat.zero_le _) (fun E h' n' _ z => det_x z) (det_k ?_)
                  rw [tn_k (k := j) (by omega)]
                  refine sw_if_ne (pc' := 87) (tgt := 92) rfl dX5_pour_84 (by decide +kernel) (fun c84 => ?_) (fun c84 => ?_)
                  · refine sw_aload_n (pc' := 93) rfl dX5_pour_92 rfl ?_
                    refine sw_iload_n (pc' := 94) rfl dX5_pour_93 rfl ?_
                    refine sw_iconst (pc' := 95) (v := 0) rfl dX5_pour_94 (by decide +kernel) ?_
                    refine sw_V (M' := MX5_picture) (d' := d - 1) (bc' := 1) (bs' := 12) (ci := 6) (as := [_, _]) dX5_pour_95 w_1255 ok_X5_picture (q_picture p57M p57A (k := k) (by omega) (hI.1 k (by omega)) (by omega) (by omega) (by omega)) p57M.ob rfl (by omega) (Nat.le_of_ble_eq_true rfl) (by omega) (by omega) (fun E h' n' _ z => na_x z) (na_k (fun p95 p95f p95N p95g p95F => ?_))
                    have p95M := p57M.fr (fun i h1 h2 => p95F i (by omega))
                    obtain ⟨Gp95, hGp95, eGp95⟩ := p95M.out
                    refine sw_astore_n (pc' := 99) (lv' := [(3, _), (0, _), (1, _), (2, _)]) rfl dX5_pour_98 (by decide +kernel) rfl ?_
                    refine sw_aload_n (pc' := 100) rfl dX5_pour_99 rfl ?_
                    refine sw_iload_n (pc' := 101) rfl dX5_pour_100 rfl ?_
                    refine sw_aload_n (pc' := 102) rfl dX5_pour_101 rfl ?_
                    refine sw_aload_n (pc' := 103) rfl dX5_pour_102 rfl ?_
                    refine sw_alen (pc' := 104) rfl dX5_pour_103 p95N (by decide +kernel) (Or.inl (by show 100 ≤ _; omega)) ?_
                    have eP104 : pbM k j 0 (σ.2.1 k) false σ = caM j p95f 0 (σ.2.1 k) false σ := (pb_ca (s := k) (j := j) (f := σ.1 k) (c := σ.2.1 k) (by omega) (by omega) 0 (σ.2.1 k) 0 false σ (fun _ _ => rfl) (Nat.le_refl _) (show σ.2.1 k ≤ 12 by omega) (by omega) (by omega)).trans (caM_cg (fun i _ hi => (congrArg (σ.1 k) (Nat.zero_add i)).trans (p95g i (by omega)).symm))
                    refine sw_V (M' := MX5_comeAll) (d' := d - 1) (bc' := 0) (bs' := 0) (ci := 6) (as := [_, _, _]) dX5_pour_104 w_1207 ok_X5_comeAll (q_comeAll p95M p57A (k := j) (m9 := σ.2.1 k) (by omega) (fun e => e ▸ hI.2.2.2.1) (by omega) (by omega) (by omega) p95N (by omega) (Nat.le_refl _) (by omega)) p95M.ob rfl (by omega) (Nat.le_of_ble_eq_true rfl) (Nat.zero_le _) (Nat.zero_le _) (fun E h' n' _ z => rp_x z) (rp_k (fun p104 p104ρ p104τ p104M p104A p104F => ?_))
                    obtain ⟨Gp104, hGp104, eGp104⟩ := p104M.out
                    refine sw_ret (v := some _) ⟨dX5_pour_107, _, rfl, rfl⟩ ?_
                    rw [opPour, onSh_k hk, onSh_k hj, if_neg qr, if_neg (fun e => Bool.noConfusion (e.symm.trans (cpB_f (of_decide_eq_false (bI_0 c69)) (nnB_f2 (bI_1 c84))))), eP104]
                    exact pm_k p104M p104A ((p57F.tr (fun i q g => p95F i (by omega)) (Nat.le_refl _)).tr p104F (Nat.le_succ _)) (Nat.le_succ _)
                  · refine sw_aload_n (pc' := 88) rfl dX5_pour_87 rfl ?_
                    refine sw_V (M' := MX5_no) (d' := d - 1) (bc' := 0) (bs' := 0) (ci := 6) (as := []) dX5_pour_88 w_1184 ok_X5_no (q_no p57M p57A) p57M.ob rfl (by omega) (Nat.le_of_ble_eq_true rfl) (Nat.zero_le _) (Nat.zero_le _) (fun E h' n' _ z => rp_x z) (rp_k (fun p88 p88ρ p88τ p88M p88A p88F => ?_))
                    obtain ⟨Gp88, hGp88, eGp88⟩ := p88M.out
                    refine sw_ret (v := some _) ⟨dX5_pour_91, _, rfl, rfl⟩ ?_
                    rw [opPour, onSh_k hk, onSh_k hj, if_neg qr, if_pos (cpB_2 (nnB_t (bI_1 c77) (bI_0 c84)))]
                    exact pm_k p88M p88A (p57F.tr p88F (Nat.le_refl _)) (Nat.le_refl _)
            · exact absurd c60 (by decide +kernel)
          · exact absurd ((le12 (by omega)).mpr (by omega)) c49
    · exact absurd c12 (by decide +kernel)
theorem q_pourRest {h : AH} {d bc bs n : Nat} {σ : CS} {th : Int32} {a b : Int32} (hR : RMo h σ th) (hI : Iv σ) (hn : 159 ≤ n) (hd : 8 ≤ d) (h1 : 1 ≤ bc) (h2 : 12 ≤ bs)  : SM SR0 MX5_pourRest d bc bs [.ref 135, .int a, .int b] h n (PM h n (tc sI sS) (opPourRest σ a b)) := by
  obtain ⟨ρ, τ, hM, hA⟩ := hR
  obtain ⟨G0, hG0, eG0⟩ := hM.out
  refine sm_of pn_OverwalksModel rfl (Nat.le_of_ble_eq_true rfl) ?_
  rcases idxN 6 (by decide +kernel) a with qk1 | ⟨k, hk, rfl⟩
  · refine sw_iload_n (pc' := 1) rfl dX5_pourRest_0 rfl ?_
    refine sw_S (M' := MX5_isNoWalk) (d' := d - 1) (bc' := 0) (bs' := 0) (as := [_]) dX5_pourRest_1 w_1306 ok_X5_isNoWalk (q_isNoWalk (by omega)) (by omega) (Nat.le_of_ble_eq_true rfl) (Nat.zero_le _) (Nat.zero_le _) (fun E h' n' _ z => det_x z) (det_k ?_)
    rw [show inB a 0 5 = false from no_x (N := 5) (by decide +kernel) qk1]
    show SW _ _ _ _ _ _ _ (.int 1 :: _) _ _ _
    refine sw_if_ne (pc' := 7) (tgt := 14) rfl dX5_pourRest_4 (by decide +kernel) (fun c4 => ?_) (fun c4 => ?_)
    · refine sw_iconst (pc' := 15) (v := 1) rfl dX5_pourRest_14 (by decide +kernel) ?_
      refine sw_goto (tgt := 19) dX5_pourRest_15 (by decide +kernel) ?_
      refine sw_istore_n (pc' := 20) (lv' := [(3, _), (0, _), (1, _), (2, _)]) rfl dX5_pourRest_19 (by decide +kernel) rfl ?_
      refine sw_aload_n (pc' := 21) rfl dX5_pourRest_20 rfl ?_
      refine sw_iload_n (pc' := 22) rfl dX5_pourRest_21 rfl ?_
      refine sw_iload_n (pc' := 23) rfl dX5_pourRest_22 rfl ?_
      refine sw_if_ne (pc' := 26) (tgt := 61) rfl dX5_pourRest_23 (by decide +kernel) (fun c23 => ?_) (fun c23 => ?_)
      · refine sw_iconst (pc' := 62) (v := 0) rfl dX5_pourRest_61 (by decide +kernel) ?_
        refine sw_V (M' := MX5_isStopped_) (d' := d - 1) (bc' := 0) (bs' := 0) (ci := 6) (as := [_, _]) dX5_pourRest_62 w_1215 ok_X5_isStopped_ (q_isStopped2 (a := true) (b := false) hM hA (by omega)) hM.ob rfl (by omega) (Nat.le_of_ble_eq_true rfl) (Nat.zero_le _) (Nat.zero_le _) (fun E h' n' _ z => rp_x z) (rp_k (fun p62 p62ρ p62τ p62M p62A p62F => ?_))
        obtain ⟨Gp62, hGp62, eGp62⟩ := p62M.out
        show SW _ _ _ _ _ _ _ (.int 1 :: _) _ _ _
        refine sw_if_eq (pc' := 68) (tgt := 70) rfl dX5_pourRest_65 (by decide +kernel) (fun c65 => ?_) (fun c65 => ?_)
        · exact absurd c65 (by decide +kernel)
        · refine sw_iconst (pc' := 69) (v := 0) rfl dX5_pourRest_68 (by decide +kernel) ?_
          refine sw_ret (v := some _) ⟨dX5_pourRest_69, _, rfl, rfl⟩ ?_
          rw [opPourRest, onWk_x qk1]
          exact pm_x tc_1 p62M p62A p62F (Nat.le_refl _)
      · exact absurd c23 (by decide +kernel)
    · exact absurd c4 (by decide +kernel)
  have ovk := hI.2.2.2.2.2.2.1 k hk
  have hcwk := hI.1 _ ovk
  rcases idxN 11 (by decide +kernel) b with qj1 | ⟨j, hj, rfl⟩
  · refine sw_iload_n (pc' := 1) rfl dX5_pourRest_0 rfl ?_
    refine sw_S (M' := MX5_isNoWalk) (d' := d - 1) (bc' := 0) (bs' := 0) (as := [_]) dX5_pourRest_1 w_1306 ok_X5_isNoWalk (q_isNoWalk (by omega)) (by omega) (Nat.le_of_ble_eq_true rfl) (Nat.zero_le _) (Nat.zero_le _) (fun E h' n' _ z => det_x z) (det_k ?_)
    rw [show inB (nI k) 0 5 = true from inB_k (N := 5) (by omega) (by decide +kernel)]
    show SW _ _ _ _ _ _ _ (.int 0 :: _) _ _ _
    refine sw_if_ne (pc' := 7) (tgt := 14) rfl dX5_pourRest_4 (by decide +kernel) (fun c4 => ?_) (fun c4 => ?_)
    · exact absurd c4 (by decide +kernel)
    · refine sw_iload_n (pc' := 8) rfl dX5_pourRest_7 rfl ?_
      refine sw_S (M' := MX5_isNone) (d' := d - 1) (bc' := 0) (bs' := 0) (as := [_]) dX5_pourRest_8 w_1165 ok_X5_isNone (q_isNone (by omega)) (by omega) (Nat.le_of_ble_eq_true rfl) (Nat.zero_le _) (Nat.zero_le _) (fun E h' n' _ z => det_x z) (det_k ?_)
      rw [show inB b 0 10 = false from no_x (N := 10) (by decide +kernel) qj1]
      show SW _ _ _ _ _ _ _ (.int 1 :: _) _ _ _
      refine sw_if_eq (pc' := 14) (tgt := 18) rfl dX5_pourRest_11 (by decide +kernel) (fun c11 => ?_) (fun c11 => ?_)
      · exact absurd c11 (by decide +kernel)
      · refine sw_iconst (pc' := 15) (v := 1) rfl dX5_pourRest_14 (by decide +kernel) ?_
        refine sw_goto (tgt := 19) dX5_pourRest_15 (by decide +kernel) ?_
        refine sw_istore_n (pc' := 20) (lv' := [(3, _), (0, _), (1, _), (2, _)]) rfl dX5_pourRest_19 (by decide +kernel) rfl ?_
        refine sw_aload_n (pc' := 21) rfl dX5_pourRest_20 rfl ?_
        refine sw_iload_n (pc' := 22) rfl dX5_pourRest_21 rfl ?_
        refine sw_iload_n (pc' := 23) rfl dX5_pourRest_22 rfl ?_
        refine sw_if_ne (pc' := 26) (tgt := 61) rfl dX5_pourRest_23 (by decide +kernel) (fun c23 => ?_) (fun c23 => ?_)
        · refine sw_iconst (pc' := 62) (v := 0) rfl dX5_pourRest_61 (by decide +kernel) ?_
          refine sw_V (M' := MX5_isStopped_) (d' := d - 1) (bc' := 0) (bs' := 0) (ci := 6) (as := [_, _]) dX5_pourRest_62 w_1215 ok_X5_isStopped_ (q_isStopped2 (a := true) (b := false) hM hA (by omega)) hM.ob rfl (by omega) (Nat.le_of_ble_eq_true rfl) (Nat.zero_le _) (Nat.zero_le _) (fun E h' n' _ z => rp_x z) (rp_k (fun p62 p62ρ p62τ p62M p62A p62F => ?_))
          obtain ⟨Gp62, hGp62, eGp62⟩ := p62M.out
          show SW _ _ _ _ _ _ _ (.int 1 :: _) _ _ _
          refine sw_if_eq (pc' := 68) (tgt := 70) rfl dX5_pourRest_65 (by decide +kernel) (fun c65 => ?_) (fun c65 => ?_)
          · exact absurd c65 (by decide +kernel)
          · refine sw_iconst (pc' := 69) (v := 0) rfl dX5_pourRest_68 (by decide +kernel) ?_
            refine sw_ret (v := some _) ⟨dX5_pourRest_69, _, rfl, rfl⟩ ?_
            rw [opPourRest, onWk_k hk, onSh_x qj1]
            exact pm_x tc_1 p62M p62A p62F (Nat.le_refl _)
        · exact absurd c23 (by decide +kernel)
  have hcj := hI.1 j hj
  rcases Classical.em ((σ.2.2.2.2.1 k).1 = false) with qm | qm
  · refine sw_iload_n (pc' := 1) rfl dX5_pourRest_0 rfl ?_
    refine sw_S (M' := MX5_isNoWalk) (d' := d - 1) (bc' := 0) (bs' := 0) (as := [_]) dX5_pourRest_1 w_1306 ok_X5_isNoWalk (q_isNoWalk (by omega)) (by omega) (Nat.le_of_ble_eq_true rfl) (Nat.zero_le _) (Nat.zero_le _) (fun E h' n' _ z => det_x z) (det_k ?_)
    rw [show inB (nI k) 0 5 = true from inB_k (N := 5) (by omega) (by decide +kernel)]
    show SW _ _ _ _ _ _ _ (.int 0 :: _) _ _ _
    refine sw_if_ne (pc' := 7) (tgt := 14) rfl dX5_pourRest_4 (by decide +kernel) (fun c4 => ?_) (fun c4 => ?_)
    · exact absurd c4 (by decide +kernel)
    · refine sw_iload_n (pc' := 8) rfl dX5_pourRest_7 rfl ?_
      refine sw_S (M' := MX5_isNone) (d' := d - 1) (bc' := 0) (bs' := 0) (as := [_]) dX5_pourRest_8 w_1165 ok_X5_isNone (q_isNone (by omega)) (by omega) (Nat.le_of_ble_eq_true rfl) (Nat.zero_le _) (Nat.zero_le _) (fun E h' n' _ z => det_x z) (det_k ?_)
      rw [show inB (nI j) 0 10 = true from inB_k (N := 10) (by omega) (by decide +kernel)]
      show SW _ _ _ _ _ _ _ (.int 0 :: _) _ _ _
      refine sw_if_eq (pc' := 14) (tgt := 18) rfl dX5_pourRest_11 (by decide +kernel) (fun c11 => ?_) (fun c11 => ?_)
      · refine sw_iconst (pc' := 19) (v := 0) rfl dX5_pourRest_18 (by decide +kernel) ?_
        refine sw_istore_n (pc' := 20) (lv' := [(3, _), (0, _), (1, _), (2, _)]) rfl dX5_pourRest_19 (by decide +kernel) rfl ?_
        refine sw_aload_n (pc' := 21) rfl dX5_pourRest_20 rfl ?_
        refine sw_iload_n (pc' := 22) rfl dX5_pourRest_21 rfl ?_
        refine sw_iload_n (pc' := 23) rfl dX5_pourRest_22 rfl ?_
        refine sw_if_ne (pc' := 26) (tgt := 61) rfl dX5_pourRest_23 (by decide +kernel) (fun c23 => ?_) (fun c23 => ?_)
        · exact absurd c23 (by decide +kernel)
        · refine sw_aload_n (pc' := 27) rfl dX5_pourRest_26 rfl ?_
          refine sw_iload_n (pc' := 28) rfl dX5_pourRest_27 rfl ?_
          refine sw_V (M' := MX5_isUnmade) (d' := d - 1) (bc' := 0) (bs' := 0) (ci := 6) (as := [_]) dX5_pourRest_28 w_1313 ok_X5_isUnmade (q_isUnmade_k hM (k := k) (by omega) (hI.2.2.2.2.2.2.1 k (by omega)) (by omega)) hM.ob rfl (by omega) (Nat.le_of_ble_eq_true rfl) (Nat.zero_le _) (Nat.zero_le _) (fun E h' n' _ z => det_x z) (det_k ?_)
          rw [show (σ.2.2.2.2.1 k).1 = false from qm]
          show SW _ _ _ _ _ _ _ (.int 1 :: _) _ _ _
          refine sw_if_ne (pc' := 34) (tgt := 57) rfl dX5_pourRest_31 (by decide +kernel) (fun c31 => ?_) (fun c31 => ?_)
          · refine sw_iconst (pc' := 58) (v := 1) rfl dX5_pourRest_57 (by decide +kernel) ?_
            refine sw_goto (tgt := 62) dX5_pourRest_58 (by decide +kernel) ?_
            refine sw_V (M' := MX5_isStopped_) (d' := d - 1) (bc' := 0) (bs' := 0) (ci := 6) (as := [_, _]) dX5_pourRest_62 w_1215 ok_X5_isStopped_ (q_isStopped2 (a := false) (b := true) hM hA (by omega)) hM.ob rfl (by omega) (Nat.le_of_ble_eq_true rfl) (Nat.zero_le _) (Nat.zero_le _) (fun E h' n' _ z => rp_x z) (rp_k (fun p62 p62ρ p62τ p62M p62A p62F => ?_))
            obtain ⟨Gp62, hGp62, eGp62⟩ := p62M.out
            show SW _ _ _ _ _ _ _ (.int 1 :: _) _ _ _
            refine sw_if_eq (pc' := 68) (tgt := 70) rfl dX5_pourRest_65 (by decide +kernel) (fun c65 => ?_) (fun c65 => ?_)
            · exact absurd c65 (by decide +kernel)
            · refine sw_iconst (pc' := 69) (v := 0) rfl dX5_pourRest_68 (by decide +kernel) ?_
              refine sw_ret (v := some _) ⟨dX5_pourRest_69, _, rfl, rfl⟩ ?_
              rw [opPourRest, onWk_k hk, onSh_k hj, if_pos qm]
              exact pm_x (tc_2 sSI) p62M p62A p62F (Nat.le_refl _)
          · exact absurd c31 (by decide +kernel)
      · exact absurd c11 (by decide +kernel)
  rcases Classical.em (12 < nI (σ.2.1 j) + nI (σ.2.1 (wO σ k))) with qr | qr
  · have hroom : 12 < σ.2.1 j + σ.2.1 (wO σ k) := (roomS (by omega) (by omega)).mp qr
    refine sw_iload_n (pc' := 1) rfl dX5_pourRest_0 rfl ?_
    refine sw_S (M' := MX5_isNoWalk) (d' := d - 1) (bc' := 0) (bs' := 0) (as := [_]) dX5_pourRest_1 w_1306 ok_X5_isNoWalk (q_isNoWalk (by omega)) (by omega) (Nat.le_of_ble_eq_true rfl) (Nat.zero_le _) (Nat.zero_le _) (fun E h' n' _ z => det_x z) (det_k ?_)
    rw [show inB (nI k) 0 5 = true from inB_k (N := 5) (by omega) (by decide +kernel)]
    show SW _ _ _ _ _ _ _ (.int 0 :: _) _ _ _
    refine sw_if_ne (pc' := 7) (tgt := 14) rfl dX5_pourRest_4 (by decide +kernel) (fun c4 => ?_) (fun c4 => ?_)
    · exact absurd c4 (by decide +kernel)
    · refine sw_iload_n (pc' := 8) rfl dX5_pourRest_7 rfl ?_
      refine sw_S (M' := MX5_isNone) (d' := d - 1) (bc' := 0) (bs' := 0) (as := [_]) dX5_pourRest_8 w_1165 ok_X5_isNone (q_isNone (by omega)) (by omega) (Nat.le_of_ble_eq_true rfl) (Nat.zero_le _) (Nat.zero_le _) (fun E h' n' _ z => det_x z) (det_k ?_)
      rw [show inB (nI j) 0 10 = true from inB_k (N := 10) (by omega) (by decide +kernel)]
      show SW _ _ _ _ _ _ _ (.int 0 :: _) _ _ _
      refine sw_if_eq (pc' := 14) (tgt := 18) rfl dX5_pourRest_11 (by decide +kernel) (fun c11 => ?_) (fun c11 => ?_)
      · refine sw_iconst (pc' := 19) (v := 0) rfl dX5_pourRest_18 (by decide +kernel) ?_
        refine sw_istore_n (pc' := 20) (lv' := [(3, _), (0, _), (1, _), (2, _)]) rfl dX5_pourRest_19 (by decide +kernel) rfl ?_
        refine sw_aload_n (pc' := 21) rfl dX5_pourRest_20 rfl ?_
        refine sw_iload_n (pc' := 22) rfl dX5_pourRest_21 rfl ?_
        refine sw_iload_n (pc' := 23) rfl dX5_pourRest_22 rfl ?_
        refine sw_if_ne (pc' := 26) (tgt := 61) rfl dX5_pourRest_23 (by decide +kernel) (fun c23 => ?_) (fun c23 => ?_)
        · exact absurd c23 (by decide +kernel)
        · refine sw_aload_n (pc' := 27) rfl dX5_pourRest_26 rfl ?_
          refine sw_iload_n (pc' := 28) rfl dX5_pourRest_27 rfl ?_
          refine sw_V (M' := MX5_isUnmade) (d' := d - 1) (bc' := 0) (bs' := 0) (ci := 6) (as := [_]) dX5_pourRest_28 w_1313 ok_X5_isUnmade (q_isUnmade_k hM (k := k) (by omega) (hI.2.2.2.2.2.2.1 k (by omega)) (by omega)) hM.ob rfl (by omega) (Nat.le_of_ble_eq_true rfl) (Nat.zero_le _) (Nat.zero_le _) (fun E h' n' _ z => det_x z) (det_k ?_)
          rw [show (σ.2.2.2.2.1 k).1 = true from (mkT qm)]
          show SW _ _ _ _ _ _ _ (.int 0 :: _) _ _ _
          refine sw_if_ne (pc' := 34) (tgt := 57) rfl dX5_pourRest_31 (by decide +kernel) (fun c31 => ?_) (fun c31 => ?_)
          · exact absurd c31 (by decide +kernel)
          · refine sw_aload_n (pc' := 35) rfl dX5_pourRest_34 rfl ?_
            refine sw_getf (ci := 6) (k := 4) (pc' := 38) rfl dX5_pourRest_35 (by decide +kernel) w_1117 hM.ob rfl ?_
            refine sw_aload_n (pc' := 39) rfl dX5_pourRest_38 rfl ?_
            refine sw_getf (ci := 6) (k := 6) (pc' := 42) rfl dX5_pourRest_39 (by decide +kernel) w_1119 hM.ob rfl ?_
            refine sw_iload_n (pc' := 43) rfl dX5_pourRest_42 rfl ?_
            refine sw_iald (j := k) (pc' := 44) rfl dX5_pourRest_43 hM.sh rfl (by omega) (by decide +kernel) ?_
            rw [shF_m (k := k) (by omega) (mkT qm)]
            refine sw_iald (j := wO σ k) (pc' := 45) rfl dX5_pourRest_44 hM.sz rfl (by omega) (by decide +kernel) ?_
            refine sw_aload_n (pc' := 46) rfl dX5_pourRest_45 rfl ?_
            refine sw_getf (ci := 6) (k := 4) (pc' := 49) rfl dX5_pourRest_46 (by decide +kernel) w_1117 hM.ob rfl ?_
            refine sw_iload_n (pc' := 50) rfl dX5_pourRest_49 rfl ?_
            refine sw_iald (j := j) (pc' := 51) rfl dX5_pourRest_50 hM.sz rfl (by omega) (by decide +kernel) ?_
            refine sw_iadd (pc' := 52) rfl dX5_pourRest_51 ?_
            rw [show (nI (σ.2.1 (wO σ k))) + (nI (σ.2.1 j)) = nI (σ.2.1 (wO σ k) + σ.2.1 j) from nI_add _ _]
            refine sw_bipush (pc' := 54) (v := 12) rfl dX5_pourRest_52 (by decide +kernel) ?_
            refine sw_icmp_le (pc' := 57) (tgt := 61) rfl dX5_pourRest_54 (by decide +kernel) (fun c54 => ?_) (fun c54 => ?_)
            · exact absurd ((le12 (by omega)).mp c54) (by omega)
            · refine sw_iconst (pc' := 58) (v := 1) rfl dX5_pourRest_57 (by decide +kernel) ?_
              refine sw_goto (tgt := 62) dX5_pourRest_58 (by decide +kernel) ?_
              refine sw_V (M' := MX5_isStopped_) (d' := d - 1) (bc' := 0) (bs' := 0) (ci := 6) (as := [_, _]) dX5_pourRest_62 w_1215 ok_X5_isStopped_ (q_isStopped2 (a := false) (b := true) hM hA (by omega)) hM.ob rfl (by omega) (Nat.le_of_ble_eq_true rfl) (Nat.zero_le _) (Nat.zero_le _) (fun E h' n' _ z => rp_x z) (rp_k (fun p62 p62ρ p62τ p62M p62A p62F => ?_))
              obtain ⟨Gp62, hGp62, eGp62⟩ := p62M.out
              show SW _ _ _ _ _ _ _ (.int 1 :: _) _ _ _
              refine sw_if_eq (pc' := 68) (tgt := 70) rfl dX5_pourRest_65 (by decide +kernel) (fun c65 => ?_) (fun c65 => ?_)
              · exact absurd c65 (by decide +kernel)
              · refine sw_iconst (pc' := 69) (v := 0) rfl dX5_pourRest_68 (by decide +kernel) ?_
                refine sw_ret (v := some _) ⟨dX5_pourRest_69, _, rfl, rfl⟩ ?_
                rw [opPourRest, onWk_k hk, onSh_k hj, if_neg qm, if_pos qr]
                exact pm_x (tc_2 sSI) p62M p62A p62F (Nat.le_refl _)
      · exact absurd c11 (by decide +kernel)
  have hroom : σ.2.1 j + σ.2.1 (wO σ k) ≤ 12 := Nat.le_of_not_lt (fun g => qr ((roomS (by omega) (by omega)).mpr g))
  refine sw_iload_n (pc' := 1) rfl dX5_pourRest_0 rfl ?_
  refine sw_S (M' := MX5_isNoWalk) (d' := d - 1) (bc' := 0) (bs' := 0) (as := [_]) dX5_pourRest_1 w_1306 ok_X5_isNoWalk (q_isNoWalk (by omega)) (by omega) (Nat.le_of_ble_eq_true rfl) (Nat.zero_le _) (Nat.zero_le _) (fun E h' n' _ z => det_x z) (det_k ?_)
  rw [show inB (nI k) 0 5 = true from inB_k (N := 5) (by omega) (by decide +kernel)]
  show SW _ _ _ _ _ _ _ (.int 0 :: _) _ _ _
  refine sw_if_ne (pc' := 7) (tgt := 14) rfl dX5_pourRest_4 (by decide +kernel) (fun c4 => ?_) (fun c4 => ?_)
  · exact absurd c4 (by decide +kernel)
  · refine sw_iload_n (pc' := 8) rfl dX5_pourRest_7 rfl ?_
    refine sw_S (M' := MX5_isNone) (d' := d - 1) (bc' := 0) (bs' := 0) (as := [_]) dX5_pourRest_8 w_1165 ok_X5_isNone (q_isNone (by omega)) (by omega) (Nat.le_of_ble_eq_true rfl) (Nat.zero_le _) (Nat.zero_le _) (fun E h' n' _ z => det_x z) (det_k ?_)
    rw [show inB (nI j) 0 10 = true from inB_k (N := 10) (by omega) (by decide +kernel)]
    show SW _ _ _ _ _ _ _ (.int 0 :: _) _ _ _
    refine sw_if_eq (pc' := 14) (tgt := 18) rfl dX5_pourRest_11 (by decide +kernel) (fun c11 => ?_) (fun c11 => ?_)
    · refine sw_iconst (pc' := 19) (v := 0) rfl dX5_pourRest_18 (by decide +kernel) ?_
      refine sw_istore_n (pc' := 20) (lv' := [(3, _), (0, _), (1, _), (2, _)]) rfl dX5_pourRest_19 (by decide +kernel) rfl ?_
      refine sw_aload_n (pc' := 21) rfl dX5_pourRest_20 rfl ?_
      refine sw_iload_n (pc' := 22) rfl dX5_pourRest_21 rfl ?_
      refine sw_iload_n (pc' := 23) rfl dX5_pourRest_22 rfl ?_
      refine sw_if_ne (pc' := 26) (tgt := 61) rfl dX5_pourRest_23 (by decide +kernel) (fun c23 => ?_) (fun c23 => ?_)
      · exact absurd c23 (by decide +kernel)
      · refine sw_aload_n (pc' := 27) rfl dX5_pourRest_26 rfl ?_
        refine sw_iload_n (pc' := 28) rfl dX5_pourRest_27 rfl ?_
        refine sw_V (M' := MX5_isUnmade) (d' := d - 1) (bc' := 0) (bs' := 0) (ci := 6) (as := [_]) dX5_pourRest_28 w_1313 ok_X5_isUnmade (q_isUnmade_k hM (k := k) (by omega) (hI.2.2.2.2.2.2.1 k (by omega)) (by omega)) hM.ob rfl (by omega) (Nat.le_of_ble_eq_true rfl) (Nat.zero_le _) (Nat.zero_le _) (fun E h' n' _ z => det_x z) (det_k ?_)
        rw [show (σ.2.2.2.2.1 k).1 = true from (mkT qm)]
        show SW _ _ _ _ _ _ _ (.int 0 :: _) _ _ _
        refine sw_if_ne (pc' := 34) (tgt := 57) rfl dX5_pourRest_31 (by decide +kernel) (fun c31 => ?_) (fun c31 => ?_)
        · exact absurd c31 (by decide +kernel)
        · refine sw_aload_n (pc' := 35) rfl dX5_pourRest_34 rfl ?_
          refine sw_getf (ci := 6) (k := 4) (pc' := 38) rfl dX5_pourRest_35 (by decide +kernel) w_1117 hM.ob rfl ?_
          refine sw_aload_n (pc' := 39) rfl dX5_pourRest_38 rfl ?_
          refine sw_getf (ci := 6) (k := 6) (pc' := 42) rfl dX5_pourRest_39 (by decide +kernel) w_1119 hM.ob rfl ?_
          refine sw_iload_n (pc' := 43) rfl dX5_pourRest_42 rfl ?_
          refine sw_iald (j := k) (pc' := 44) rfl dX5_pourRest_43 hM.sh rfl (by omega) (by decide +kernel) ?_
          rw [shF_m (k := k) (by omega) (mkT qm)]
          refine sw_iald (j := wO σ k) (pc' := 45) rfl dX5_pourRest_44 hM.sz rfl (by omega) (by decide +kernel) ?_
          refine sw_aload_n (pc' := 46) rfl dX5_pourRest_45 rfl ?_
          refine sw_getf (ci := 6) (k := 4) (pc' := 49) rfl dX5_pourRest_46 (by decide +kernel) w_1117 hM.ob rfl ?_
          refine sw_iload_n (pc' := 50) rfl dX5_pourRest_49 rfl ?_
          refine sw_iald (j := j) (pc' := 51) rfl dX5_pourRest_50 hM.sz rfl (by omega) (by decide +kernel) ?_
          refine sw_iadd (pc' := 52) rfl dX5_pourRest_51 ?_
          rw [show (nI (σ.2.1 (wO σ k))) + (nI (σ.2.1 j)) = nI (σ.2.1 (wO σ k) + σ.2.1 j) from nI_add _ _]
          refine sw_bipush (pc' := 54) (v := 12) rfl dX5_pourRest_52 (by decide +kernel) ?_
          refine sw_icmp_le (pc' := 57) (tgt := 61) rfl dX5_pourRest_54 (by decide +kernel) (fun c54 => ?_) (fun c54 => ?_)
          · refine sw_iconst (pc' := 62) (v := 0) rfl dX5_pourRest_61 (by decide +kernel) ?_
            refine sw_V (M' := MX5_isStopped_) (d' := d - 1) (bc' := 0) (bs' := 0) (ci := 6) (as := [_, _]) dX5_pourRest_62 w_1215 ok_X5_isStopped_ (q_isStopped2 (a := false) (b := false) hM hA (by omega)) hM.ob rfl (by omega) (Nat.le_of_ble_eq_true rfl) (Nat.zero_le _) (Nat.zero_le _) (fun E h' n' _ z => rp_x z) (rp_k (fun p62 p62ρ p62τ p62M p62A p62F => ?_))
            obtain ⟨Gp62, hGp62, eGp62⟩ := p62M.out
            show SW _ _ _ _ _ _ _ (.int 0 :: _) _ _ _
            refine sw_if_eq (pc' := 68) (tgt := 70) rfl dX5_pourRest_65 (by decide +kernel) (fun c65 => ?_) (fun c65 => ?_)
            · refine sw_aload_n (pc' := 71) rfl dX5_pourRest_70 rfl ?_
              refine sw_iload_n (pc' := 72) rfl dX5_pourRest_71 rfl ?_
              refine sw_V (M' := MX5_isStale) (d' := d - 1) (bc' := 0) (bs' := 0) (ci := 6) (as := [_]) dX5_pourRest_72 w_1317 ok_X5_isStale (q_isStale p62M (k := k) (by omega) (mkT qm) (hI.2.2.2.2.2.2.1 k (by omega))) p62M.ob rfl (by omega) (Nat.le_of_ble_eq_true rfl) (Nat.zero_le _) (Nat.zero_le _) (fun E h' n' _ z => det_x z) (det_k ?_)
              refine sw_if_ne (pc' := 78) (tgt := 115) rfl dX5_pourRest_75 (by decide +kernel) (fun c75 => ?_) (fun c75 => ?_)
              · refine sw_aload_n (pc' := 116) rfl dX5_pourRest_115 rfl ?_
                refine sw_V (M' := MX5_no) (d' := d - 1) (bc' := 0) (bs' := 0) (ci := 6) (as := []) dX5_pourRest_116 w_1184 ok_X5_no (q_no p62M p62A) p62M.ob rfl (by omega) (Nat.le_of_ble_eq_true rfl) (Nat.zero_le _) (Nat.zero_le _) (fun E h' n' _ z => rp_x z) (rp_k (fun p116 p116ρ p116τ p116M p116A p116F => ?_))
                obtain ⟨Gp116, hGp116, eGp116⟩ := p116M.out
                refine sw_ret (v := some _) ⟨dX5_pourRest_119, _, rfl, rfl⟩ ?_
                rw [opPourRest, onWk_k hk, onSh_k hj, if_neg qm, if_neg qr, if_pos (Or.inl (wGa_s (bI_1 c75)))]
                exact pm_k p116M p116A (p62F.tr p116F (Nat.le_refl _)) (Nat.le_refl _)
              · refine sw_aload_n (pc' := 79) rfl dX5_pourRest_78 rfl ?_
                refine sw_getf (ci := 6) (k := 7) (pc' := 82) rfl dX5_pourRest_79 (by decide +kernel) w_1120 p62M.ob rfl ?_
                refine sw_iload_n (pc' := 83) rfl dX5_pourRest_82 rfl ?_
                refine sw_iald (j := k) (pc' := 84) rfl dX5_pourRest_83 p62M.hw rfl (by omega) (by decide +kernel) ?_
                refine sw_iconst (pc' := 85) (v := 1) rfl dX5_pourRest_84 (by decide +kernel) ?_
                refine sw_icmp_eq (pc' := 88) (tgt := 115) rfl dX5_pourRest_85 (by decide +kernel) (fun c85 => ?_) (fun c85 => ?_)
                · refine sw_aload_n (pc' := 116) rfl dX5_pourRest_115 rfl ?_
                  refine sw_V (M' := MX5_no) (d' := d - 1) (bc' := 0) (bs' := 0) (ci := 6) (as := []) dX5_pourRest_116 w_1184 ok_X5_no (q_no p62M p62A) p62M.ob rfl (by omega) (Nat.le_of_ble_eq_true rfl) (Nat.zero_le _) (Nat.zero_le _) (fun E h' n' _ z => rp_x z) (rp_k (fun p116 p116ρ p116τ p116M p116A p116F => ?_))
                  obtain ⟨Gp116, hGp116, eGp116⟩ := p116M.out
                  refine sw_ret (v := some _) ⟨dX5_pourRest_119, _, rfl, rfl⟩ ?_
                  rw [opPourRest, onWk_k hk, onSh_k hj, if_neg qm, if_neg qr, if_pos (Or.inl (wGa_1 c85))]
                  exact pm_k p116M p116A (p62F.tr p116F (Nat.le_refl _)) (Nat.le_refl _)
                · refine sw_iload_n (pc' := 89) rfl dX5_pourRest_88 rfl ?_
                  refine sw_S (M' := MX5_isTable) (d' := d - 1) (bc' := 0) (bs' := 0) (as := [_]) dX5_pourRest_89 w_1178 ok_X5_isTable (q_isTable) (by omega) (Nat.le_of_ble_eq_true rfl) (Nat.zero_le _) (Nat.zero_le _) (fun E h' n' _ z => det_x z) (det_k ?_)
                  rw [tb_k (k := j) (by omega)]
                  refine sw_if_ne (pc' := 95) (tgt := 115) rfl dX5_pourRest_92 (by decide +kernel) (fun c92 => ?_) (fun c92 => ?_)
                  · refine sw_aload_n (pc' := 116) rfl dX5_pourRest_115 rfl ?_
                    refine sw_V (M' := MX5_no) (d' := d - 1) (bc' := 0) (bs' := 0) (ci := 6) (as := []) dX5_pourRest_116 w_1184 ok_X5_no (q_no p62M p62A) p62M.ob rfl (by omega) (Nat.le_of_ble_eq_true rfl) (Nat.zero_le _) (Nat.zero_le _) (fun E h' n' _ z => rp_x z) (rp_k (fun p116 p116ρ p116τ p116M p116A p116F => ?_))
                    obtain ⟨Gp116, hGp116, eGp116⟩ := p116M.out
                    refine sw_ret (v := some _) ⟨dX5_pourRest_119, _, rfl, rfl⟩ ?_
                    rw [opPourRest, onWk_k hk, onSh_k hj, if_neg qm, if_neg qr, if_pos (Or.inr (cpB_1 (of_decide_eq_true (bI_1 c92))))]
                    exact pm_k p116M p116A (p62F.tr p116F (Nat.le_refl _)) (Nat.le_refl _)
                  · refine sw_aload_n (pc' := 96) rfl dX5_pourRest_95 rfl ?_
                    refine sw_aload_n (pc' := 97) rfl dX5_pourRest_96 rfl ?_
                    refine sw_getf (ci := 6) (k := 6) (pc' := 100) rfl dX5_pourRest_97 (by decide +kernel) w_1119 p62M.ob rfl ?_
                    refine sw_iload_n (pc' := 101) rfl dX5_pourRest_100 rfl ?_
                    refine sw_iald (j := k) (pc' := 102) rfl dX5_pourRest_101 p62M.sh rfl (by omega) (by decide +kernel) ?_
                    rw [shF_m (k := k) (by omega) (mkT qm)]
                    refine sw_V (M' := MX5_hasNothing) (d' := d - 1) (bc' := 0) (bs' := 0) (ci := 6) (as := [_]) dX5_pourRest_102 w_1251 ok_X5_hasNothing (q_hasNothing p62M p62A (k := wO σ k) (by omega) (hI.1 (wO σ k) (by omega)) (by omega)) p62M.ob rfl (by omega) (Nat.le_of_ble_eq_true rfl) (Nat.zero_le _) (Nat.zero_le _) (fun E h' n' _ z => det_x z) (det_k ?_)
                    refine sw_if_eq (pc' := 108) (tgt := 120) rfl dX5_pourRest_105 (by decide +kernel) (fun c105 => ?_) (fun c105 => ?_)
                    · obtain ⟨A, eA, hA1, hA2⟩ := hI.2.2.2.2.2.2.2 k hk (mkT qm) (bI_0 c75)
                      refine sw_aload_n (pc' := 121) rfl dX5_pourRest_120 rfl ?_
                      refine sw_iload_n (pc' := 122) rfl dX5_pourRest_121 rfl ?_
                      refine sw_V (M' := MX5_left) (d' := d - 1) (bc' := 1) (bs' := 12) (ci := 6) (as := [_]) dX5_pourRest_122 w_1347 ok_X5_left (q_left p62M p62A (k := k) (by omega) (mkT qm) (hI.2.2.2.2.2.2.1 k (by omega)) (hI.1 _ (hI.2.2.2.2.2.2.1 k (by omega))) eA hA1 (by omega) (by omega) (by omega) (by omega)) p62M.ob rfl (by omega) (Nat.le_of_ble_eq_true rfl) (by omega) (by omega) (fun E h' n' _ z => nl_x z) (nl_k (fun p122 p122ρ p122τ p122f p122M p122A p122N p122g p122F => ?_))
                      obtain ⟨Gp122, hGp122, eGp122⟩ := p122M.out
                      refine sw_astore (pc' := 127) (lv' := [(4, _), (3, _), (0, _), (1, _), (2, _)]) rfl dX5_pourRest_125 (by decide +kernel) rfl ?_
                      refine sw_aload_n (pc' := 128) rfl dX5_pourRest_127 rfl ?_
                      refine sw_iload_n (pc' := 129) rfl dX5_pourRest_128 rfl ?_
                      refine sw_aload (pc' := 131) rfl dX5_pourRest_129 rfl ?_
                      refine sw_aload (pc' := 133) rfl dX5_pourRest_131 rfl ?_
                      refine sw_alen (pc' := 134) rfl dX5_pourRest_133 p122N (by decide +kernel) (Or.inl (by show 100 ≤ _; omega)) ?_
                      have eP134 : pbM (wO σ k) j A (σ.2.1 (wO σ k) - A) false (gvU σ k (σ.2.1 (wO σ k) - A)) = caM j p122f 0 (σ.2.1 (wO σ k) - A) false (gvU σ k (σ.2.1 (wO σ k) - A)) := (pb_ca (s := wO σ k) (j := j) (f := σ.1 (wO σ k)) (c := σ.2.1 (wO σ k)) (by omega) (by omega) A (σ.2.1 (wO σ k) - A) 0 false (gvU σ k (σ.2.1 (wO σ k) - A)) (fun _ _ => rfl) (Nat.le_refl _) (show σ.2.1 (wO σ k) ≤ 12 by omega) (by show σ.2.1 j + (σ.2.1 (wO σ k) - A) ≤ 12; omega) (by omega)).trans (caM_cg (fun i _ hi => (p122g i (by omega)).symm))
                      refine sw_V (M' := MX5_comeAll) (d' := d - 1) (bc' := 0) (bs' := 0) (ci := 6) (as := [_, _, _]) dX5_pourRest_134 w_1207 ok_X5_comeAll (q_comeAll p122M p122A (k := j) (m9 := σ.2.1 (wO σ k) - A) (by omega) (fun e => e ▸ hI.2.2.2.1) (by show σ.2.1 j + (σ.2.1 (wO σ k) - A) ≤ 12; omega) (by omega) (by omega) p122N (by omega) (Nat.le_refl _) (by omega)) p122M.ob rfl (by omega) (Nat.le_of_ble_eq_true rfl) (Nat.zero_le _) (Nat.zero_le _) (fun E h' n' _ z => rp_x z) (rp_k (fun p134 p134ρ p134τ p134M p134A p134F => ?_))
                      obtain ⟨Gp134, hGp134, eGp134⟩ := p134M.out
                      refine sw_pop (pc' := 138) rfl dX5_pourRest_137 rfl ?_
                      refine sw_aload (pc' := 140) rfl dX5_pourRest_138 rfl ?_
                      refine sw_alen (pc' := 141) rfl dX5_pourRest_140 ((p134F n (Or.inr (by omega)) (by omega)).trans p122N) (by decide +kernel) (Or.inl (by show 100 ≤ _; omega)) ?_
                      refine sw_ret (v := some _) ⟨dX5_pourRest_141, _, rfl, rfl⟩ ?_
                      rw [opPourRest, onWk_k hk, onSh_k hj, if_neg qm, if_neg qr, if_neg (fun q => q.elim (fun e => Bool.noConfusion (e.symm.trans (wGa_t (bI_0 c75) c85))) (fun e => Bool.noConfusion (e.symm.trans (cpB_f (of_decide_eq_false (bI_0 c92)) (nnB_f1 (bI_0 c105)))))), wGu_eq (bI_0 c75) hcwk eA hA1 (by omega), tcl (by omega) eA, eP134]
                      exact pm_k p134M p134A ((p62F.tr p122F (Nat.le_refl _)).tr p134F (Nat.le_succ _)) (Nat.le_succ _)
                    · refine sw_iload_n (pc' := 109) rfl dX5_pourRest_108 rfl ?_
                      refine sw_S (M' := MX5_takesNothing) (d' := d - 1) (bc' := 0) (bs' := 0) (as := [_]) dX5_pourRest_109 w_1181 ok_X5_takesNothing (q_takesNothing (by omega)) (by omega) (Nat.le_of_ble_eq_true rfl) (Nat.zero_le _) (Nat.zero_le _) (fun E h' n' _ z => det_x z) (det_k ?_)
                      rw [tn_k (k := j) (by omega)]
                      refine sw_if_ne (pc' := 115) (tgt := 120) rfl dX5_pourRest_112 (by decide +kernel) (fun c112 => ?_) (fun c112 => ?_)
                      · obtain ⟨A, eA, hA1, hA2⟩ := hI.2.2.2.2.2.2.2 k hk (mkT qm) (bI_0 c75)
                        refine sw_aload_n (pc' := 121) rfl dX5_pourRest_120 rfl ?_
                        refine sw_iload_n (pc' := 122) rfl dX5_pourRest_121 rfl ?_
                        refine sw_V (M' := MX5_left) (d' := d - 1) (bc' := 1) (bs' := 12) (ci := 6) (as := [_]) dX5_pourRest_122 w_1347 ok_X5_left (q_left p62M p62A (k := k) (by omega) (mkT qm) (hI.2.2.2.2.2.2.1 k (by omega)) (hI.1 _ (hI.2.2.2.2.2.2.1 k (by omega))) eA hA1 (by omega) (by omega) (by omega) (by omega)) p62M.ob rfl (by omega) (Nat.le_of_ble_eq_true rfl) (by omega) (by omega) (fun E h' n' _ z => nl_x z) (nl_k (fun p122 p122ρ p122τ p122f p122M p122A p122N p122g p122F => ?_))
                        obtain ⟨Gp122, hGp122, eGp122⟩ := p122M.out
                        refine sw_astore (pc' := 127) (lv' := [(4, _), (3, _), (0, _), (1, _), (2, _)]) rfl dX5_pourRest_125 (by decide +kernel) rfl ?_
                        refine sw_aload_n (pc' := 128) rfl dX5_pourRest_127 rfl ?_
                        refine sw_iload_n (pc' := 129) rfl dX5_pourRest_128 rfl ?_
                        refine sw_aload (pc' := 131) rfl dX5_pourRest_129 rfl ?_
                        refine sw_aload (pc' := 133) rfl dX5_pourRest_131 rfl ?_
                        refine sw_alen (pc' := 134) rfl dX5_pourRest_133 p122N (by decide +kernel) (Or.inl (by show 100 ≤ _; omega)) ?_
                        have eP134 : pbM (wO σ k) j A (σ.2.1 (wO σ k) - A) false (gvU σ k (σ.2.1 (wO σ k) - A)) = caM j p122f 0 (σ.2.1 (wO σ k) - A) false (gvU σ k (σ.2.1 (wO σ k) - A)) := (pb_ca (s := wO σ k) (j := j) (f := σ.1 (wO σ k)) (c := σ.2.1 (wO σ k)) (by omega) (by omega) A (σ.2.1 (wO σ k) - A) 0 false (gvU σ k (σ.2.1 (wO σ k) - A)) (fun _ _ => rfl) (Nat.le_refl _) (show σ.2.1 (wO σ k) ≤ 12 by omega) (by show σ.2.1 j + (σ.2.1 (wO σ k) - A) ≤ 12; omega) (by omega)).trans (caM_cg (fun i _ hi => (p122g i (by omega)).symm))
                        refine sw_V (M' := MX5_comeAll) (d' := d - 1) (bc' := 0) (bs' := 0) (ci := 6) (as := [_, _, _]) dX5_pourRest_134 w_1207 ok_X5_comeAll (q_comeAll p122M p122A (k := j) (m9 := σ.2.1 (wO σ k) - A) (by omega) (fun e => e ▸ hI.2.2.2.1) (by show σ.2.1 j + (σ.2.1 (wO σ k) - A) ≤ 12; omega) (by omega) (by omega) p122N (by omega) (Nat.le_refl _) (by omega)) p122M.ob rfl (by omega) (Nat.le_of_ble_eq_true rfl) (Nat.zero_le _) (Nat.zero_le _) (fun E h' n' _ z => rp_x z) (rp_k (fun p134 p134ρ p134τ p134M p134A p134F => ?_))
                        obtain ⟨Gp134, hGp134, eGp134⟩ := p134M.out
                        refine sw_pop (pc' := 138) rfl dX5_pourRest_137 rfl ?_
                        refine sw_aload (pc' := 140) rfl dX5_pourRest_138 rfl ?_
                        refine sw_alen (pc' := 141) rfl dX5_pourRest_140 ((p134F n (Or.inr (by omega)) (by omega)).trans p122N) (by decide +kernel) (Or.inl (by show 100 ≤ _; omega)) ?_
                        refine sw_ret (v := some _) ⟨dX5_pourRest_141, _, rfl, rfl⟩ ?_
                        rw [opPourRest, onWk_k hk, onSh_k hj, if_neg qm, if_neg qr, if_neg (fun q => q.elim (fun e => Bool.noConfusion (e.symm.trans (wGa_t (bI_0 c75) c85))) (fun e => Bool.noConfusion (e.symm.trans (cpB_f (of_decide_eq_false (bI_0 c92)) (nnB_f2 (bI_1 c112)))))), wGu_eq (bI_0 c75) hcwk eA hA1 (by omega), tcl (by omega) eA, eP134]
                        exact pm_k p134M p134A ((p62F.tr p122F (Nat.le_refl _)).tr p134F (Nat.le_succ _)) (Nat.le_succ _)
                      · refine sw_aload_n (pc' := 116) rfl dX5_pourRest_115 rfl ?_
                        refine sw_V (M' := MX5_no) (d' := d - 1) (bc' := 0) (bs' := 0) (ci := 6) (as := []) dX5_pourRest_116 w_1184 ok_X5_no (q_no p62M p62A) p62M.ob rfl (by omega) (Nat.le_of_ble_eq_true rfl) (Nat.zero_le _) (Nat.zero_le _) (fun E h' n' _ z => rp_x z) (rp_k (fun p116 p116ρ p116τ p116M p116A p116F => ?_))
                        obtain ⟨Gp116, hGp116, eGp116⟩ := p116M.out
                        refine sw_ret (v := some _) ⟨dX5_pourRest_119, _, rfl, rfl⟩ ?_
                        rw [opPourRest, onWk_k hk, onSh_k hj, if_neg qm, if_neg qr, if_pos (Or.inr (cpB_2 (nnB_t (bI_1 c105) (bI_0 c112))))]
                        exact pm_k p116M p116A (p62F.tr p116F (Nat.le_refl _)) (Nat.le_refl _)
            · exact absurd c65 (by decide +kernel)
          · exact absurd ((le12 (by omega)).mpr (by omega)) c54
    · exact absurd c11 (by decide +kernel)
theorem q_takeOut {h : AH} {d bc bs n : Nat} {σ : CS} {th : Int32} {a : Int32} (hR : RMo h σ th) (hI : Iv σ) (hn : 159 ≤ n) (hd : 8 ≤ d) (h1 : 1 ≤ bc) (h2 : 12 ≤ bs)  : SM SR0 MX5_takeOut d bc bs [.ref 135, .int a] h n (PM h n (tc sI sS) (opTakeOut σ a)) := by
  obtain ⟨ρ, τ, hM, hA⟩ := hR
  obtain ⟨G0, hG0, eG0⟩ := hM.out
  refine sm_of pn_OverwalksModel rfl (Nat.le_of_ble_eq_true rfl) ?_
  rcases idxN 6 (by decide +kernel) a with qk1 | ⟨k, hk, rfl⟩
  · refine sw_aload_n (pc' := 1) rfl dX5_takeOut_0 rfl ?_
    refine sw_iload_n (pc' := 2) rfl dX5_takeOut_1 rfl ?_
    refine sw_S (M' := MX5_isNoWalk) (d' := d - 1) (bc' := 0) (bs' := 0) (as := [_]) dX5_takeOut_2 w_1306 ok_X5_isNoWalk (q_isNoWalk (by omega)) (by omega) (Nat.le_of_ble_eq_true rfl) (Nat.zero_le _) (Nat.zero_le _) (fun E h' n' _ z => det_x z) (det_k ?_)
    rw [show inB a 0 5 = false from no_x (N := 5) (by decide +kernel) qk1]
    show SW _ _ _ _ _ _ _ (.int 1 :: _) _ _ _
    refine sw_aload_n (pc' := 6) rfl dX5_takeOut_5 rfl ?_
    refine sw_iload_n (pc' := 7) rfl dX5_takeOut_6 rfl ?_
    refine sw_V (M' := MX5_isUnmade) (d' := d - 1) (bc' := 0) (bs' := 0) (ci := 6) (as := [_]) dX5_takeOut_7 w_1313 ok_X5_isUnmade (q_isUnmade_x hM (no_x (N := 5) (by decide +kernel) qk1) (by omega)) hM.ob rfl (by omega) (Nat.le_of_ble_eq_true rfl) (Nat.zero_le _) (Nat.zero_le _) (fun E h' n' _ z => det_x z) (det_k ?_)
    refine sw_V (M' := MX5_isStopped_) (d' := d - 1) (bc' := 0) (bs' := 0) (ci := 6) (as := [_, _]) dX5_takeOut_10 w_1215 ok_X5_isStopped_ (q_isStopped2 (a := true) (b := false) hM hA (by omega)) hM.ob rfl (by omega) (Nat.le_of_ble_eq_true rfl) (Nat.zero_le _) (Nat.zero_le _) (fun E h' n' _ z => rp_x z) (rp_k (fun p10 p10ρ p10τ p10M p10A p10F => ?_))
    obtain ⟨Gp10, hGp10, eGp10⟩ := p10M.out
    show SW _ _ _ _ _ _ _ (.int 1 :: _) _ _ _
    refine sw_if_eq (pc' := 16) (tgt := 18) rfl dX5_takeOut_13 (by decide +kernel) (fun c13 => ?_) (fun c13 => ?_)
    · exact absurd c13 (by decide +kernel)
    · refine sw_iconst (pc' := 17) (v := 0) rfl dX5_takeOut_16 (by decide +kernel) ?_
      refine sw_ret (v := some _) ⟨dX5_takeOut_17, _, rfl, rfl⟩ ?_
      rw [opTakeOut, onWk_x qk1]
      exact pm_x tc_1 p10M p10A p10F (Nat.le_refl _)
  have ovk := hI.2.2.2.2.2.2.1 k hk
  have hcwk := hI.1 _ ovk
  rcases Classical.em ((σ.2.2.2.2.1 k).1 = false) with qm | qm
  · refine sw_aload_n (pc' := 1) rfl dX5_takeOut_0 rfl ?_
    refine sw_iload_n (pc' := 2) rfl dX5_takeOut_1 rfl ?_
    refine sw_S (M' := MX5_isNoWalk) (d' := d - 1) (bc' := 0) (bs' := 0) (as := [_]) dX5_takeOut_2 w_1306 ok_X5_isNoWalk (q_isNoWalk (by omega)) (by omega) (Nat.le_of_ble_eq_true rfl) (Nat.zero_le _) (Nat.zero_le _) (fun E h' n' _ z => det_x z) (det_k ?_)
    rw [show inB (nI k) 0 5 = true from inB_k (N := 5) (by omega) (by decide +kernel)]
    show SW _ _ _ _ _ _ _ (.int 0 :: _) _ _ _
    refine sw_aload_n (pc' := 6) rfl dX5_takeOut_5 rfl ?_
    refine sw_iload_n (pc' := 7) rfl dX5_takeOut_6 rfl ?_
    refine sw_V (M' := MX5_isUnmade) (d' := d - 1) (bc' := 0) (bs' := 0) (ci := 6) (as := [_]) dX5_takeOut_7 w_1313 ok_X5_isUnmade (q_isUnmade_k hM (k := k) (by omega) (hI.2.2.2.2.2.2.1 k (by omega)) (by omega)) hM.ob rfl (by omega) (Nat.le_of_ble_eq_true rfl) (Nat.zero_le _) (Nat.zero_le _) (fun E h' n' _ z => det_x z) (det_k ?_)
    rw [show (σ.2.2.2.2.1 k).1 = false from qm]
    show SW _ _ _ _ _ _ _ (.int 1 :: _) _ _ _
    refine sw_V (M' := MX5_isStopped_) (d' := d - 1) (bc' := 0) (bs' := 0) (ci := 6) (as := [_, _]) dX5_takeOut_10 w_1215 ok_X5_isStopped_ (q_isStopped2 (a := false) (b := true) hM hA (by omega)) hM.ob rfl (by omega) (Nat.le_of_ble_eq_true rfl) (Nat.zero_le _) (Nat.zero_le _) (fun E h' n' _ z => rp_x z) (rp_k (fun p10 p10ρ p10τ p10M p10A p10F => ?_))
    obtain ⟨Gp10, hGp10, eGp10⟩ := p10M.out
    show SW _ _ _ _ _ _ _ (.int 1 :: _) _ _ _
    refine sw_if_eq (pc' := 16) (tgt := 18) rfl dX5_takeOut_13 (by decide +kernel) (fun c13 => ?_) (fun c13 => ?_)
    · exact absurd c13 (by decide +kernel)
    · refine sw_iconst (pc' := 17) (v := 0) rfl dX5_takeOut_16 (by decide +kernel) ?_
      refine sw_ret (v := some _) ⟨dX5_takeOut_17, _, rfl, rfl⟩ ?_
      rw [opTakeOut, onWk_k hk, if_pos qm]
      exact pm_x (tc_2 sSI) p10M p10A p10F (Nat.le_refl _)
  refine sw_aload_n (pc' := 1) rfl dX5_takeOut_0 rfl ?_
  refine sw_iload_n (pc' := 2) rfl dX5_takeOut_1 rfl ?_
  refine sw_S (M' := MX5_isNoWalk) (d' := d - 1) (bc' := 0) (bs' := 0) (as := [_]) dX5_takeOut_2 w_1306 ok_X5_isNoWalk (q_isNoWalk (by omega)) (by omega) (Nat.le_of_ble_eq_true rfl) (Nat.zero_le _) (Nat.zero_le _) (fun E h' n' _ z => det_x z) (det_k ?_)
  rw [show inB (nI k) 0 5 = true from inB_k (N := 5) (by omega) (by decide +kernel)]
  show SW _ _ _ _ _ _ _ (.int 0 :: _) _ _ _
  refine sw_aload_n (pc' := 6) rfl dX5_takeOut_5 rfl ?_
  refine sw_iload_n (pc' := 7) rfl dX5_takeOut_6 rfl ?_
  refine sw_V (M' := MX5_isUnmade) (d' := d - 1) (bc' := 0) (bs' := 0) (ci := 6) (as := [_]) dX5_takeOut_7 w_1313 ok_X5_isUnmade (q_isUnmade_k hM (k := k) (by omega) (hI.2.2.2.2.2.2.1 k (by omega)) (by omega)) hM.ob rfl (by omega) (Nat.le_of_ble_eq_true rfl) (Nat.zero_le _) (Nat.zero_le _) (fun E h' n' _ z => det_x z) (det_k ?_)
  rw [show (σ.2.2.2.2.1 k).1 = true from (mkT qm)]
  show SW _ _ _ _ _ _ _ (.int 0 :: _) _ _ _
  refine sw_V (M' := MX5_isStopped_) (d' := d - 1) (bc' := 0) (bs' := 0) (ci := 6) (as := [_, _]) dX5_takeOut_10 w_1215 ok_X5_isStopped_ (q_isStopped2 (a := false) (b := false) hM hA (by omega)) hM.ob rfl (by omega) (Nat.le_of_ble_eq_true rfl) (Nat.zero_le _) (Nat.zero_le _) (fun E h' n' _ z => rp_x z) (rp_k (fun p10 p10ρ p10τ p10M p10A p10F => ?_))
  obtain ⟨Gp10, hGp10, eGp10⟩ := p10M.out
  show SW _ _ _ _ _ _ _ (.int 0 :: _) _ _ _
  refine sw_if_eq (pc' := 16) (tgt := 18) rfl dX5_takeOut_13 (by decide +kernel) (fun c13 => ?_) (fun c13 => ?_)
  · refine sw_aload_n (pc' := 19) rfl dX5_takeOut_18 rfl ?_
    refine sw_iload_n (pc' := 20) rfl dX5_takeOut_19 rfl ?_
    refine sw_V (M' := MX5_isStale) (d' := d - 1) (bc' := 0) (bs' := 0) (ci := 6) (as := [_]) dX5_takeOut_20 w_1317 ok_X5_isStale (q_isStale p10M (k := k) (by omega) (mkT qm) (hI.2.2.2.2.2.2.1 k (by omega))) p10M.ob rfl (by omega) (Nat.le_of_ble_eq_true rfl) (Nat.zero_le _) (Nat.zero_le _) (fun E h' n' _ z => det_x z) (det_k ?_)
    refine sw_if_ne (pc' := 26) (tgt := 76) rfl dX5_takeOut_23 (by decide +kernel) (fun c23 => ?_) (fun c23 => ?_)
    · refine sw_aload_n (pc' := 77) rfl dX5_takeOut_76 rfl ?_
      refine sw_V (M' := MX5_no) (d' := d - 1) (bc' := 0) (bs' := 0) (ci := 6) (as := []) dX5_takeOut_77 w_1184 ok_X5_no (q_no p10M p10A) p10M.ob rfl (by omega) (Nat.le_of_ble_eq_true rfl) (Nat.zero_le _) (Nat.zero_le _) (fun E h' n' _ z => rp_x z) (rp_k (fun p77 p77ρ p77τ p77M p77A p77F => ?_))
      obtain ⟨Gp77, hGp77, eGp77⟩ := p77M.out
      refine sw_ret (v := some _) ⟨dX5_takeOut_80, _, rfl, rfl⟩ ?_
      rw [opTakeOut, onWk_k hk, if_neg qm, if_pos (Or.inl (bI_1 c23))]
      exact pm_k p77M p77A (p10F.tr p77F (Nat.le_refl _)) (Nat.le_refl _)
    · refine sw_aload_n (pc' := 27) rfl dX5_takeOut_26 rfl ?_
      refine sw_getf (ci := 6) (k := 7) (pc' := 30) rfl dX5_takeOut_27 (by decide +kernel) w_1120 p10M.ob rfl ?_
      refine sw_iload_n (pc' := 31) rfl dX5_takeOut_30 rfl ?_
      refine sw_iald (j := k) (pc' := 32) rfl dX5_takeOut_31 p10M.hw rfl (by omega) (by decide +kernel) ?_
      refine sw_iconst (pc' := 33) (v := 1) rfl dX5_takeOut_32 (by decide +kernel) ?_
      refine sw_icmp_ne (pc' := 36) (tgt := 76) rfl dX5_takeOut_33 (by decide +kernel) (fun c33 => ?_) (fun c33 => ?_)
      · refine sw_aload_n (pc' := 77) rfl dX5_takeOut_76 rfl ?_
        refine sw_V (M' := MX5_no) (d' := d - 1) (bc' := 0) (bs' := 0) (ci := 6) (as := []) dX5_takeOut_77 w_1184 ok_X5_no (q_no p10M p10A) p10M.ob rfl (by omega) (Nat.le_of_ble_eq_true rfl) (Nat.zero_le _) (Nat.zero_le _) (fun E h' n' _ z => rp_x z) (rp_k (fun p77 p77ρ p77τ p77M p77A p77F => ?_))
        obtain ⟨Gp77, hGp77, eGp77⟩ := p77M.out
        refine sw_ret (v := some _) ⟨dX5_takeOut_80, _, rfl, rfl⟩ ?_
        rw [opTakeOut, onWk_k hk, if_neg qm, if_pos (Or.inr (Or.inl c33))]
        exact pm_k p77M p77A (p10F.tr p77F (Nat.le_refl _)) (Nat.le_refl _)
      · refine sw_aload_n (pc' := 37) rfl dX5_takeOut_36 rfl ?_
        refine sw_getf (ci := 6) (k := 6) (pc' := 40) rfl dX5_takeOut_37 (by decide +kernel) w_1119 p10M.ob rfl ?_
        refine sw_iload_n (pc' := 41) rfl dX5_takeOut_40 rfl ?_
        refine sw_iald (j := k) (pc' := 42) rfl dX5_takeOut_41 p10M.sh rfl (by omega) (by decide +kernel) ?_
        rw [shF_m (k := k) (by omega) (mkT qm)]
        refine sw_bipush (pc' := 44) (v := 7) rfl dX5_takeOut_42 (by decide +kernel) ?_
        refine sw_icmp_eq (pc' := 47) (tgt := 76) rfl dX5_takeOut_44 (by decide +kernel) (fun c44 => ?_) (fun c44 => ?_)
        · refine sw_aload_n (pc' := 77) rfl dX5_takeOut_76 rfl ?_
          refine sw_V (M' := MX5_no) (d' := d - 1) (bc' := 0) (bs' := 0) (ci := 6) (as := []) dX5_takeOut_77 w_1184 ok_X5_no (q_no p10M p10A) p10M.ob rfl (by omega) (Nat.le_of_ble_eq_true rfl) (Nat.zero_le _) (Nat.zero_le _) (fun E h' n' _ z => rp_x z) (rp_k (fun p77 p77ρ p77τ p77M p77A p77F => ?_))
          obtain ⟨Gp77, hGp77, eGp77⟩ := p77M.out
          refine sw_ret (v := some _) ⟨dX5_takeOut_80, _, rfl, rfl⟩ ?_
          rw [opTakeOut, onWk_k hk, if_neg qm, if_pos (Or.inr (Or.inr (Or.inl c44)))]
          exact pm_k p77M p77A (p10F.tr p77F (Nat.le_refl _)) (Nat.le_refl _)
        · refine sw_aload_n (pc' := 48) rfl dX5_takeOut_47 rfl ?_
          refine sw_getf (ci := 6) (k := 11) (pc' := 51) rfl dX5_takeOut_48 (by decide +kernel) w_1124 p10M.ob rfl ?_
          refine sw_iload_n (pc' := 52) rfl dX5_takeOut_51 rfl ?_
          refine sw_zald (j := k) (pc' := 53) rfl dX5_takeOut_52 p10M.ct (by decide +kernel) rfl (by omega) (by decide +kernel) ?_
          refine sw_if_eq (pc' := 56) (tgt := 76) rfl dX5_takeOut_53 (by decide +kernel) (fun c53 => ?_) (fun c53 => ?_)
          · refine sw_aload_n (pc' := 77) rfl dX5_takeOut_76 rfl ?_
            refine sw_V (M' := MX5_no) (d' := d - 1) (bc' := 0) (bs' := 0) (ci := 6) (as := []) dX5_takeOut_77 w_1184 ok_X5_no (q_no p10M p10A) p10M.ob rfl (by omega) (Nat.le_of_ble_eq_true rfl) (Nat.zero_le _) (Nat.zero_le _) (fun E h' n' _ z => rp_x z) (rp_k (fun p77 p77ρ p77τ p77M p77A p77F => ?_))
            obtain ⟨Gp77, hGp77, eGp77⟩ := p77M.out
            refine sw_ret (v := some _) ⟨dX5_takeOut_80, _, rfl, rfl⟩ ?_
            rw [opTakeOut, onWk_k hk, if_neg qm, if_pos (Or.inr (Or.inr (Or.inr (wCt_f1 (bI_0 c53)))))]
            exact pm_k p77M p77A (p10F.tr p77F (Nat.le_refl _)) (Nat.le_refl _)
          · have e1 := p10A.2 k hk (bI_1 c53)
            obtain ⟨A, eA, hA1, hA2⟩ := hI.2.2.2.2.2.2.2 k hk (mkT qm) (bI_0 c23)
            have hA0 := hA2 (bI_1 c53)
            refine sw_aload_n (pc' := 57) rfl dX5_takeOut_56 rfl ?_
            refine sw_getf (ci := 6) (k := 13) (pc' := 60) rfl dX5_takeOut_57 (by decide +kernel) w_1126 p10M.ob rfl ?_
            refine sw_iload_n (pc' := 61) rfl dX5_takeOut_60 rfl ?_
            refine sw_iald (j := k) (pc' := 62) rfl dX5_takeOut_61 p10M.td rfl (by omega) (by decide +kernel) ?_
            refine sw_aload_n (pc' := 63) rfl dX5_takeOut_62 rfl ?_
            refine sw_getf (ci := 6) (k := 12) (pc' := 66) rfl dX5_takeOut_63 (by decide +kernel) w_1125 p10M.ob rfl ?_
            refine sw_aload_n (pc' := 67) rfl dX5_takeOut_66 rfl ?_
            refine sw_getf (ci := 6) (k := 6) (pc' := 70) rfl dX5_takeOut_67 (by decide +kernel) w_1119 p10M.ob rfl ?_
            refine sw_iload_n (pc' := 71) rfl dX5_takeOut_70 rfl ?_
            refine sw_iald (j := k) (pc' := 72) rfl dX5_takeOut_71 p10M.sh rfl (by omega) (by decide +kernel) ?_
            rw [shF_m (k := k) (by omega) (mkT qm)]
            refine sw_iald (j := wO σ k) (pc' := 73) rfl dX5_takeOut_72 p10M.tu rfl (by omega) (by decide +kernel) ?_
            refine sw_icmp_eq (pc' := 76) (tgt := 81) rfl dX5_takeOut_73 (by decide +kernel) (fun c73 => ?_) (fun c73 => ?_)
            · refine sw_aload_n (pc' := 82) rfl dX5_takeOut_81 rfl ?_
              refine sw_getf (ci := 6) (k := 10) (pc' := 85) rfl dX5_takeOut_82 (by decide +kernel) w_1123 p10M.ob rfl ?_
              refine sw_iload_n (pc' := 86) rfl dX5_takeOut_85 rfl ?_
              refine sw_dup2 (pc' := 87) rfl dX5_takeOut_86 rfl rfl ?_
              refine sw_iald (j := k) (pc' := 88) rfl dX5_takeOut_87 p10M.pl rfl (by omega) (by decide +kernel) ?_
              rw [eA]
              refine sw_iconst (pc' := 89) (v := 1) rfl dX5_takeOut_88 (by decide +kernel) ?_
              refine sw_isub (pc' := 90) rfl dX5_takeOut_89 ?_
              rw [nI_m1 hA0]
              refine sw_iast (j := k) (pc' := 91) rfl dX5_takeOut_90 p10M.pl (by decide +kernel) rfl (by omega) (by decide +kernel) ?_
              refine sw_nm (fun g1 eg1 => ?_)
              have zg1 := (congrFun eg1 154).trans (up_s (h := p10) (i := 154))
              have nM : MM g1 p10ρ _ (wU σ k ((σ.2.2.2.2.1 k).1, wO σ k, (σ.2.2.2.2.1 k).2.2.1, (σ.2.2.2.2.1 k).2.2.2.1, (σ.2.2.2.2.1 k).2.2.2.2.1 + 1, (σ.2.2.2.2.1 k).2.2.2.2.2.1, (σ.2.2.2.2.1 k).2.2.2.2.2.2.1, (σ.2.2.2.2.1 k).2.2.2.2.2.2.2)) (b3 false false false) := p10M.placeU hk eA hA0 zg1 (fun i h1 => (congrFun eg1 i).trans ((up_n h1).trans (rfl)))
              have nA := p10A.placeU (k := k) (m := (σ.2.2.2.2.1 k).1) (o := wO σ k) (a := (σ.2.2.2.2.1 k).2.2.1) (b := (σ.2.2.2.2.1 k).2.2.2.1) (c := (σ.2.2.2.2.1 k).2.2.2.2.1 + 1) (d := (σ.2.2.2.2.1 k).2.2.2.2.2.1) hk
              have nF : FrM h g1 n := p10F.tr (FrM.of1 (fun i q => (congrFun eg1 i).trans ((up_n (by omega)).trans (rfl)))) (Nat.le_refl _)
              obtain ⟨Gn, hGn, eGn⟩ := nM.out
              have e150n : shF (wU σ k ((σ.2.2.2.2.1 k).1, wO σ k, (σ.2.2.2.2.1 k).2.2.1, (σ.2.2.2.2.1 k).2.2.2.1, (σ.2.2.2.2.1 k).2.2.2.2.1 + 1, (σ.2.2.2.2.1 k).2.2.2.2.2.1, (σ.2.2.2.2.1 k).2.2.2.2.2.2.1, (σ.2.2.2.2.1 k).2.2.2.2.2.2.2)) k = nI (wO σ k) := (shF_m hk (by show (up σ.2.2.2.2.1 k _ k).1 = true; rw [up_s]; exact mkT qm)).trans (congrArg nI wO_wU)
              have ep154 : wAh (wU σ k ((σ.2.2.2.2.1 k).1, wO σ k, (σ.2.2.2.2.1 k).2.2.1, (σ.2.2.2.2.1 k).2.2.2.1, (σ.2.2.2.2.1 k).2.2.2.2.1 + 1, (σ.2.2.2.2.1 k).2.2.2.2.2.1, (σ.2.2.2.2.1 k).2.2.2.2.2.2.1, (σ.2.2.2.2.1 k).2.2.2.2.2.2.2)) k = nI (A - 1) := by
                        show (up σ.2.2.2.2.1 k _ k).2.2.2.1 - (up σ.2.2.2.2.1 k _ k).2.2.2.2.1 = _
                        rw [up_s]
                        show (σ.2.2.2.2.1 k).2.2.2.1 - ((σ.2.2.2.2.1 k).2.2.2.2.1 + 1) = _
                        rw [i_sub2, show (σ.2.2.2.2.1 k).2.2.2.1 - (σ.2.2.2.2.1 k).2.2.2.2.1 = nI A from eA, nI_m1 hA0]
              refine sw_aload_n (pc' := 92) rfl dX5_takeOut_91 rfl ?_
              refine sw_aload_n (pc' := 93) rfl dX5_takeOut_92 rfl ?_
              refine sw_getf (ci := 6) (k := 6) (pc' := 96) rfl dX5_takeOut_93 (by decide +kernel) w_1119 nM.ob rfl ?_
              refine sw_iload_n (pc' := 97) rfl dX5_takeOut_96 rfl ?_
              refine sw_iald (j := k) (pc' := 98) rfl dX5_takeOut_97 nM.sh rfl (by omega) (by decide +kernel) ?_
              rw [e150n]
              refine sw_aload_n (pc' := 99) rfl dX5_takeOut_98 rfl ?_
              refine sw_getf (ci := 6) (k := 10) (pc' := 102) rfl dX5_takeOut_99 (by decide +kernel) w_1123 nM.ob rfl ?_
              refine sw_iload_n (pc' := 103) rfl dX5_takeOut_102 rfl ?_
              refine sw_iald (j := k) (pc' := 104) rfl dX5_takeOut_103 nM.pl rfl (by omega) (by decide +kernel) ?_
              rw [ep154]
              refine sw_V (M' := MX5_leave) (d' := d - 1) (bc' := 0) (bs' := 0) (ci := 6) (as := [_, _]) dX5_takeOut_104 w_1223 ok_X5_leave (q_leave nM nA (k := wO σ k) (p := A - 1) (by omega) (hI.1 (wO σ k) (by omega)) (fun _ => (show A - 1 < σ.2.1 (wO σ k) by omega)) (lv6 (σ := σ) hI ovk (p := A - 1) (by omega)) (by omega)) nM.ob rfl (by omega) (Nat.le_of_ble_eq_true rfl) (Nat.zero_le _) (Nat.zero_le _) (fun E h' n' _ z => rp_x z) (rp_k (fun p104 p104ρ p104τ p104M p104A p104F => ?_))
              obtain ⟨Gp104, hGp104, eGp104⟩ := p104M.out
              have e150 : shF (liU (wU σ k ((σ.2.2.2.2.1 k).1, wO σ k, (σ.2.2.2.2.1 k).2.2.1, (σ.2.2.2.2.1 k).2.2.2.1, (σ.2.2.2.2.1 k).2.2.2.2.1 + 1, (σ.2.2.2.2.1 k).2.2.2.2.2.1, (σ.2.2.2.2.1 k).2.2.2.2.2.2.1, (σ.2.2.2.2.1 k).2.2.2.2.2.2.2)) (wO σ k) (A - 1)) k = nI (wO σ k) := by
                        unfold shF wO
                        rw [liU_wk]
                        exact e150n
              have eT : wU (liU (wU σ k ((σ.2.2.2.2.1 k).1, wO σ k, (σ.2.2.2.2.1 k).2.2.1, (σ.2.2.2.2.1 k).2.2.2.1, (σ.2.2.2.2.1 k).2.2.2.2.1 + 1, (σ.2.2.2.2.1 k).2.2.2.2.2.1, (σ.2.2.2.2.1 k).2.2.2.2.2.2.1, (σ.2.2.2.2.1 k).2.2.2.2.2.2.2)) (wO σ k) (A - 1)) k (((liU (wU σ k ((σ.2.2.2.2.1 k).1, wO σ k, (σ.2.2.2.2.1 k).2.2.1, (σ.2.2.2.2.1 k).2.2.2.1, (σ.2.2.2.2.1 k).2.2.2.2.1 + 1, (σ.2.2.2.2.1 k).2.2.2.2.2.1, (σ.2.2.2.2.1 k).2.2.2.2.2.2.1, (σ.2.2.2.2.1 k).2.2.2.2.2.2.2)) (wO σ k) (A - 1)).2.2.2.2.1 k).1, wO (liU (wU σ k ((σ.2.2.2.2.1 k).1, wO σ k, (σ.2.2.2.2.1 k).2.2.1, (σ.2.2.2.2.1 k).2.2.2.1, (σ.2.2.2.2.1 k).2.2.2.2.1 + 1, (σ.2.2.2.2.1 k).2.2.2.2.2.1, (σ.2.2.2.2.1 k).2.2.2.2.2.2.1, (σ.2.2.2.2.1 k).2.2.2.2.2.2.2)) (wO σ k) (A - 1)) k, ((liU (wU σ k ((σ.2.2.2.2.1 k).1, wO σ k, (σ.2.2.2.2.1 k).2.2.1, (σ.2.2.2.2.1 k).2.2.2.1, (σ.2.2.2.2.1 k).2.2.2.2.1 + 1, (σ.2.2.2.2.1 k).2.2.2.2.2.1, (σ.2.2.2.2.1 k).2.2.2.2.2.2.1, (σ.2.2.2.2.1 k).2.2.2.2.2.2.2)) (wO σ k) (A - 1)).2.2.2.2.1 k).2.2.1, ((liU (wU σ k ((σ.2.2.2.2.1 k).1, wO σ k, (σ.2.2.2.2.1 k).2.2.1, (σ.2.2.2.2.1 k).2.2.2.1, (σ.2.2.2.2.1 k).2.2.2.2.1 + 1, (σ.2.2.2.2.1 k).2.2.2.2.2.1, (σ.2.2.2.2.1 k).2.2.2.2.2.2.1, (σ.2.2.2.2.1 k).2.2.2.2.2.2.2)) (wO σ k) (A - 1)).2.2.2.2.1 k).2.2.2.1, ((liU (wU σ k ((σ.2.2.2.2.1 k).1, wO σ k, (σ.2.2.2.2.1 k).2.2.1, (σ.2.2.2.2.1 k).2.2.2.1, (σ.2.2.2.2.1 k).2.2.2.2.1 + 1, (σ.2.2.2.2.1 k).2.2.2.2.2.1, (σ.2.2.2.2.1 k).2.2.2.2.2.2.1, (σ.2.2.2.2.1 k).2.2.2.2.2.2.2)) (wO σ k) (A - 1)).2.2.2.2.1 k).2.2.2.2.1, (liU (wU σ k ((σ.2.2.2.2.1 k).1, wO σ k, (σ.2.2.2.2.1 k).2.2.1, (σ.2.2.2.2.1 k).2.2.2.1, (σ.2.2.2.2.1 k).2.2.2.2.1 + 1, (σ.2.2.2.2.1 k).2.2.2.2.2.1, (σ.2.2.2.2.1 k).2.2.2.2.2.2.1, (σ.2.2.2.2.1 k).2.2.2.2.2.2.2)) (wO σ k) (A - 1)).2.2.1 (wO σ k), ((liU (wU σ k ((σ.2.2.2.2.1 k).1, wO σ k, (σ.2.2.2.2.1 k).2.2.1, (σ.2.2.2.2.1 k).2.2.2.1, (σ.2.2.2.2.1 k).2.2.2.2.1 + 1, (σ.2.2.2.2.1 k).2.2.2.2.2.1, (σ.2.2.2.2.1 k).2.2.2.2.2.2.1, (σ.2.2.2.2.1 k).2.2.2.2.2.2.2)) (wO σ k) (A - 1)).2.2.2.2.1 k).2.2.2.2.2.2.1, false) = toU σ k (liU σ (wO σ k) (A - 1)) := by
                        unfold wO
                        rw [liU_wk, liU_wU, wU_wU, wk_wU]
                        rfl
              refine sw_aload_n (pc' := 108) rfl dX5_takeOut_107 rfl ?_
              refine sw_getf (ci := 6) (k := 11) (pc' := 111) rfl dX5_takeOut_108 (by decide +kernel) w_1124 p104M.ob rfl ?_
              refine sw_iload_n (pc' := 112) rfl dX5_takeOut_111 rfl ?_
              refine sw_iconst (pc' := 113) (v := 0) rfl dX5_takeOut_112 (by decide +kernel) ?_
              refine sw_zast (j := k) (pc' := 114) rfl dX5_takeOut_113 p104M.ct (by decide +kernel) rfl (by omega) (by decide +kernel) ?_
              refine sw_nm (fun g2 eg2 => ?_)
              have zg2 := (congrFun eg2 155).trans (up_s (h := p104) (i := 155))
              refine sw_aload_n (pc' := 115) rfl dX5_takeOut_114 rfl ?_
              refine sw_getf (ci := 6) (k := 9) (pc' := 118) rfl dX5_takeOut_115 (by decide +kernel) w_1122 (((congrFun eg2 135).trans (up_n (by omega))).trans p104M.ob) rfl ?_
              refine sw_iload_n (pc' := 119) rfl dX5_takeOut_118 rfl ?_
              refine sw_aload_n (pc' := 120) rfl dX5_takeOut_119 rfl ?_
              refine sw_getf (ci := 6) (k := 5) (pc' := 123) rfl dX5_takeOut_120 (by decide +kernel) w_1118 (((congrFun eg2 135).trans (up_n (by omega))).trans p104M.ob) rfl ?_
              refine sw_aload_n (pc' := 124) rfl dX5_takeOut_123 rfl ?_
              refine sw_getf (ci := 6) (k := 6) (pc' := 127) rfl dX5_takeOut_124 (by decide +kernel) w_1119 (((congrFun eg2 135).trans (up_n (by omega))).trans p104M.ob) rfl ?_
              refine sw_iload_n (pc' := 128) rfl dX5_takeOut_127 rfl ?_
              refine sw_iald (j := k) (pc' := 129) rfl dX5_takeOut_128 (((congrFun eg2 150).trans (up_n (by omega))).trans p104M.sh) rfl (by omega) (by decide +kernel) ?_
              rw [e150]
              refine sw_iald (j := wO σ k) (pc' := 130) rfl dX5_takeOut_129 (((congrFun eg2 149).trans (up_n (by omega))).trans p104M.sf) rfl (by omega) (by decide +kernel) ?_
              refine sw_iast (j := k) (pc' := 131) rfl dX5_takeOut_130 (((congrFun eg2 153).trans (up_n (by omega))).trans p104M.st) (by decide +kernel) rfl (by omega) (by decide +kernel) ?_
              refine sw_nm (fun g3 eg3 => ?_)
              have zg3 := (congrFun eg3 153).trans (up_s (h := g2) (i := 153))
              refine sw_aload_n (pc' := 132) rfl dX5_takeOut_131 rfl ?_
              refine sw_getf (ci := 6) (k := 4) (pc' := 135) rfl dX5_takeOut_132 (by decide +kernel) w_1117 (((congrFun eg3 135).trans (up_n (by omega))).trans (((congrFun eg2 135).trans (up_n (by omega))).trans p104M.ob)) rfl ?_
              refine sw_aload_n (pc' := 136) rfl dX5_takeOut_135 rfl ?_
              refine sw_getf (ci := 6) (k := 6) (pc' := 139) rfl dX5_takeOut_136 (by decide +kernel) w_1119 (((congrFun eg3 135).trans (up_n (by omega))).trans (((congrFun eg2 135).trans (up_n (by omega))).trans p104M.ob)) rfl ?_
              refine sw_iload_n (pc' := 140) rfl dX5_takeOut_139 rfl ?_
              refine sw_iald (j := k) (pc' := 141) rfl dX5_takeOut_140 (((congrFun eg3 150).trans (up_n (by omega))).trans (((congrFun eg2 150).trans (up_n (by omega))).trans p104M.sh)) rfl (by omega) (by decide +kernel) ?_
              rw [e150]
              refine sw_iald (j := wO σ k) (pc' := 142) rfl dX5_takeOut_141 (((congrFun eg3 148).trans (up_n (by omega))).trans (((congrFun eg2 148).trans (up_n (by omega))).trans p104M.sz)) rfl (by omega) (by decide +kernel) ?_
              rw [liU_wU]
              show SW _ _ _ _ _ _ _ (.int (nI ((liU σ (wO σ k) (A - 1)).2.1 (wO σ k))) :: _) _ _ _
              refine sw_ret (v := some _) ⟨dX5_takeOut_142, _, rfl, rfl⟩ ?_
              have qM := p104M.stampU hk (s := wO σ k) e150 (((congrFun eg3 155).trans (up_n (by omega))).trans zg2) zg3 (fun i h1 h2 => (congrFun eg3 i).trans ((up_n (by omega)).trans ((congrFun eg2 i).trans ((up_n (by omega)).trans (rfl)))))
              have qA := p104A.stampU (k := k) (m := (((liU (wU σ k ((σ.2.2.2.2.1 k).1, wO σ k, (σ.2.2.2.2.1 k).2.2.1, (σ.2.2.2.2.1 k).2.2.2.1, (σ.2.2.2.2.1 k).2.2.2.2.1 + 1, (σ.2.2.2.2.1 k).2.2.2.2.2.1, (σ.2.2.2.2.1 k).2.2.2.2.2.2.1, (σ.2.2.2.2.1 k).2.2.2.2.2.2.2)) (wO σ k) (A - 1))).2.2.2.2.1 k).1) (o := wO ((liU (wU σ k ((σ.2.2.2.2.1 k).1, wO σ k, (σ.2.2.2.2.1 k).2.2.1, (σ.2.2.2.2.1 k).2.2.2.1, (σ.2.2.2.2.1 k).2.2.2.2.1 + 1, (σ.2.2.2.2.1 k).2.2.2.2.2.1, (σ.2.2.2.2.1 k).2.2.2.2.2.2.1, (σ.2.2.2.2.1 k).2.2.2.2.2.2.2)) (wO σ k) (A - 1))) k) (a := (((liU (wU σ k ((σ.2.2.2.2.1 k).1, wO σ k, (σ.2.2.2.2.1 k).2.2.1, (σ.2.2.2.2.1 k).2.2.2.1, (σ.2.2.2.2.1 k).2.2.2.2.1 + 1, (σ.2.2.2.2.1 k).2.2.2.2.2.1, (σ.2.2.2.2.1 k).2.2.2.2.2.2.1, (σ.2.2.2.2.1 k).2.2.2.2.2.2.2)) (wO σ k) (A - 1))).2.2.2.2.1 k).2.2.1) (b := (((liU (wU σ k ((σ.2.2.2.2.1 k).1, wO σ k, (σ.2.2.2.2.1 k).2.2.1, (σ.2.2.2.2.1 k).2.2.2.1, (σ.2.2.2.2.1 k).2.2.2.2.1 + 1, (σ.2.2.2.2.1 k).2.2.2.2.2.1, (σ.2.2.2.2.1 k).2.2.2.2.2.2.1, (σ.2.2.2.2.1 k).2.2.2.2.2.2.2)) (wO σ k) (A - 1))).2.2.2.2.1 k).2.2.2.1) (c := (((liU (wU σ k ((σ.2.2.2.2.1 k).1, wO σ k, (σ.2.2.2.2.1 k).2.2.1, (σ.2.2.2.2.1 k).2.2.2.1, (σ.2.2.2.2.1 k).2.2.2.2.1 + 1, (σ.2.2.2.2.1 k).2.2.2.2.2.1, (σ.2.2.2.2.1 k).2.2.2.2.2.2.1, (σ.2.2.2.2.1 k).2.2.2.2.2.2.2)) (wO σ k) (A - 1))).2.2.2.2.1 k).2.2.2.2.1) (d := ((liU (wU σ k ((σ.2.2.2.2.1 k).1, wO σ k, (σ.2.2.2.2.1 k).2.2.1, (σ.2.2.2.2.1 k).2.2.2.1, (σ.2.2.2.2.1 k).2.2.2.2.1 + 1, (σ.2.2.2.2.1 k).2.2.2.2.2.1, (σ.2.2.2.2.1 k).2.2.2.2.2.2.1, (σ.2.2.2.2.1 k).2.2.2.2.2.2.2)) (wO σ k) (A - 1))).2.2.1 (wO σ k)) (e := (((liU (wU σ k ((σ.2.2.2.2.1 k).1, wO σ k, (σ.2.2.2.2.1 k).2.2.1, (σ.2.2.2.2.1 k).2.2.2.1, (σ.2.2.2.2.1 k).2.2.2.2.1 + 1, (σ.2.2.2.2.1 k).2.2.2.2.2.1, (σ.2.2.2.2.1 k).2.2.2.2.2.2.1, (σ.2.2.2.2.1 k).2.2.2.2.2.2.2)) (wO σ k) (A - 1))).2.2.2.2.1 k).2.2.2.2.2.2.1)
              rw [opTakeOut, onWk_k hk, if_neg qm, if_neg (fun q => q.elim (fun e => Bool.noConfusion (e.symm.trans (bI_0 c23))) (fun q => q.elim (fun e => e c33) (fun q => q.elim c44 (fun e => Bool.noConfusion (e.symm.trans (wCt_t (bI_1 c53) (e1.symm.trans c73))))))), tcl (by omega) eA]
              exact pm_k (eT ▸ qM) (eT ▸ qA) ((nF.tr p104F (Nat.le_refl _)).tr (FrM.of1 (fun i q => (congrFun eg3 i).trans ((up_n (by omega)).trans ((congrFun eg2 i).trans ((up_n (by omega)).trans (rfl)))))) (Nat.le_refl _)) (Nat.le_refl _)
            · refine sw_aload_n (pc' := 77) rfl dX5_takeOut_76 rfl ?_
              refine sw_V (M' := MX5_no) (d' := d - 1) (bc' := 0) (bs' := 0) (ci := 6) (as := []) dX5_takeOut_77 w_1184 ok_X5_no (q_no p10M p10A) p10M.ob rfl (by omega) (Nat.le_of_ble_eq_true rfl) (Nat.zero_le _) (Nat.zero_le _) (fun E h' n' _ z => rp_x z) (rp_k (fun p77 p77ρ p77τ p77M p77A p77F => ?_))
              obtain ⟨Gp77, hGp77, eGp77⟩ := p77M.out
              refine sw_ret (v := some _) ⟨dX5_takeOut_80, _, rfl, rfl⟩ ?_
              rw [opTakeOut, onWk_k hk, if_neg qm, if_pos (Or.inr (Or.inr (Or.inr (wCt_f2 (fun e => c73 (e1.trans e))))))]
              exact pm_k p77M p77A (p10F.tr p77F (Nat.le_refl _)) (Nat.le_refl _)
  · exact absurd c13 (by decide +kernel)
end
section
/-! 47.model -/
/-! the model: pair, ofWalk, house, putAll -/
/-- fewer locals, in any order -/
theorem SW.sub {SR : SRT} {M : MI} {d bc bs pc n : Nat} {lv lv' : List (Nat × Value)} {st : List Value} {h : AH} {Post : ARes → AH → Nat → Prop} (k : SW SR M d bc bs pc lv' st h n Post) (hs : ∀ q ∈ lv', q ∈ lv) : SW SR M d bc bs pc lv st h n Post := by
  intro G p l e R s m args below meth c A ad0 n0 Q hc hr he H locs cells slots ls ad hm hl hx hbc hbs
  refine k G p l e R s m args below meth c A ad0 n0 Q hc hr he H locs cells slots ls ad hm ⟨⟨hl.1.1, hl.1.2.1, fun q hq => ?_⟩, fun q hq => hl.2.1 q (hs q hq), hl.2.2⟩ hx hbc hbs
  obtain ⟨z, hz, rfl⟩ := List.mem_map.mp hq
  exact hl.1.2.2 _ (List.mem_map.mpr ⟨z, hs z hz, rfl⟩)
theorem SW.pick {SR : SRT} {M : MI} {d bc bs pc n : Nat} {lv lv' : List (Nat × Value)} {st : List Value} {h : AH} {Post : ARes → AH → Nat → Prop} (ks : List Nat) (hl : lv_pick lv ks = lv') (k : SW SR M d bc bs pc lv' st h n Post) : SW SR M d bc bs pc lv st h n Post := SW.sub k (fun q hq => by
  subst hl
  obtain ⟨i, -, hi⟩ := List.mem_filterMap.mp hq
  exact List.mem_of_getElem? hi)
theorem owV_0 {σ : CS} {k : Nat} (h : (σ.2.2.2.2.1 k).1 = false) {x : Int32} : owV σ k x = -1 := if_pos h
theorem owV_1 {σ : CS} {k X : Nat} (h : (σ.2.2.2.2.1 k).1 = true) (hX : X ≤ 3) {f : Nat → Int32} : up (up (up (up f 0 (nI (wO σ k))) 1 (σ.2.2.2.2.1 k).2.2.1) 2 (σ.2.2.2.2.1 k).2.2.2.1) 3 (bI (wSt σ k)) X = owV σ k (nI X) := by
  unfold owV
  rw [if_neg (by rw [h]; decide)]
  match X, hX with
  | 0, _ => rfl
  | 1, _ => rfl
  | 2, _ => rfl
  | 3, _ => rfl
theorem opOfWalk_k {σ : CS} {k X : Nat} (hX : X ≤ 3) : (if (σ.2.2.2.2.1 k).1 = false then (rI (-1), σ) else (rI (if nI X = 0 then nI (wO σ k) else if nI X = 1 then (σ.2.2.2.2.1 k).2.2.1 else if nI X = 2 then (σ.2.2.2.2.1 k).2.2.2.1 else bI (wSt σ k)), σ)) = (rI (owV σ k (nI X)), σ) := by
  unfold owV
  split <;> rfl
theorem hoV_k {σ : CS} {X : Nat} (hX : X ≤ 5) {f : Nat → Int32} : up (up (up (up (up (up f 0 (cnT σ)) 1 (cnN σ)) 2 (cnW σ)) 3 (cnS σ)) 4 σ.2.2.2.2.2.1) 5 σ.2.2.2.2.2.2 X = hoV σ (nI X) := by
  unfold hoV
  match X, hX with
  | 0, _ => rfl
  | 1, _ => rfl
  | 2, _ => rfl
  | 3, _ => rfl
  | 4, _ => rfl
  | 5, _ => rfl
theorem opHouse_k {σ : CS} {X : Nat} (hX : X ≤ 5) : opHouse σ (nI X) = (rI (hoV σ (nI X)), σ) := by
  match X, hX with
  | 0, _ => rfl
  | 1, _ => rfl
  | 2, _ => rfl
  | 3, _ => rfl
  | 4, _ => rfl
  | 5, _ => rfl
theorem opHouse_x {σ : CS} {x : Int32} (q : x < 0 ∨ nI 5 < x) : opHouse σ x = (xA, σ) := by
  have g : ∀ k : Nat, k ≤ 5 → ¬ x = nI k := fun k hk e => nin (N := 5) (by decide +kernel) hk (e ▸ q)
  unfold opHouse
  rw [if_neg (show ¬ x = 0 from g 0 (by decide +kernel)), if_neg (show ¬ x = 1 from g 1 (by decide +kernel)), if_neg (show ¬ x = 2 from g 2 (by decide +kernel)), if_neg (show ¬ x = 3 from g 3 (by decide +kernel)), if_neg (show ¬ x = 4 from g 4 (by decide +kernel)), if_neg (show ¬ x = 5 from g 5 (by decide +kernel))]
def wrB (g : Nat → Int32) : Nat → Nat → Bool
  | _, 0 => false
  | j, m + 1 => !inB (g j) (-1) 100 || wrB g (j + 1) m
theorem wr4 {a b c e : Int32} : wrB (fun i => o4 (nI i) a b c e) 0 4 = (!inB a (-1) 100 || (!inB b (-1) 100 || (!inB c (-1) 100 || (!inB e (-1) 100 || false)))) := rfl
theorem inB_m {x : Int32} : (!inB x (-1) 100) = decide (x < -1 ∨ 100 < x) := by
  by_cases q : x < -1 ∨ 100 < x
  · rw [inB_x q, decide_eq_true q]; rfl
  · rw [inB_n q, decide_eq_false q]; rfl
theorem pa_t {α : Type} {a b c e : Int32} {Z X : α} (h : wrB (fun i => o4 (nI i) a b c e) 0 4 = true) : (if a < -1 ∨ 100 < a then Z else if b < -1 ∨ 100 < b then Z else if c < -1 ∨ 100 < c then Z else if e < -1 ∨ 100 < e then Z else X) = Z := by
  rw [wr4, inB_m, inB_m, inB_m, inB_m] at h
  by_cases q1 : a < -1 ∨ 100 < a
  · rw [if_pos q1]
  by_cases q2 : b < -1 ∨ 100 < b
  · rw [if_neg q1, if_pos q2]
  by_cases q3 : c < -1 ∨ 100 < c
  · rw [if_neg q1, if_neg q2, if_pos q3]
  by_cases q4 : e < -1 ∨ 100 < e
  · rw [if_neg q1, if_neg q2, if_neg q3, if_pos q4]
  · rw [decide_eq_false q1, decide_eq_false q2, decide_eq_false q3, decide_eq_false q4] at h
    cases h
theorem pa_f {α : Type} {a b c e : Int32} {Z X : α} (h : wrB (fun i => o4 (nI i) a b c e) 0 4 = false) : (if a < -1 ∨ 100 < a then Z else if b < -1 ∨ 100 < b then Z else if c < -1 ∨ 100 < c then Z else if e < -1 ∨ 100 < e then Z else X) = X := by
  rw [wr4, inB_m, inB_m, inB_m, inB_m] at h
  by_cases q1 : a < -1 ∨ 100 < a
  · rw [decide_eq_true q1] at h; cases h
  by_cases q2 : b < -1 ∨ 100 < b
  · rw [decide_eq_true q2, Bool.true_or, Bool.or_true] at h; cases h
  by_cases q3 : c < -1 ∨ 100 < c
  · rw [decide_eq_true q3, Bool.true_or, Bool.or_true, Bool.or_true] at h; cases h
  by_cases q4 : e < -1 ∨ 100 < e
  · rw [decide_eq_true q4, Bool.true_or, Bool.or_true, Bool.or_true, Bool.or_true] at h; cases h
  · rw [if_neg q1, if_neg q2, if_neg q3, if_neg q4]
theorem o4_up {a b c e : Int32} {f : Nat → Int32} : ∀ i, i < 4 → up (up (up (up f 0 a) 1 b) 2 c) 3 e i = o4 (nI i) a b c e := by
  intro i hi
  match i, hi with
  | 0, _ => rfl
  | 1, _ => rfl
  | 2, _ => rfl
  | 3, _ => rfl
theorem prR_e {σ : CS} {x : Int32} {m : Nat} (h1 : m ≤ σ.2.1 6) (h2 : ∀ i, i < m → σ.1 6 i < x) (h3 : ∀ i, m ≤ i → i < σ.2.1 6 → ¬ σ.1 6 i < x) : prR σ x = m := rpN_eq (Nat.zero_le _) (by omega) (fun i _ h => h2 i h) (fun i h1 h2 => h3 i h1 (by omega))
theorem la2_o {σ : CS} {k j p : Nat} {x : Int32} (h : j ≠ k) : (la2 σ k p x).2.1 j = σ.2.1 j := up_n h
theorem ql_pair {h : AH} {d bc bs n : Nat} {ρ : Nat → Nat → Int32} {τ : Nat → Int32} {σ : CS} {th : Int32} {x y : Int32} (hM : MM h ρ τ σ th) (hA : AG ρ τ σ) (hs : srt (σ.1 6) (σ.2.1 6)) (hx : ∀ i, i < σ.2.1 6 → σ.1 6 i ≠ x) (hc : σ.2.1 6 < 12) (h67 : σ.2.1 6 = σ.2.1 7) (hd : 1 ≤ d) (m : Nat) : m ≤ σ.2.1 6 → (∀ i, m ≤ i → i < σ.2.1 6 → ¬ σ.1 6 i < x) → SW SR0 MX5_pair d bc bs 101 [(3, .int (nI m)), (0, .ref 135), (1, .int x), (2, .int y)] [] h n (RP h n (some (.int (-1))) (la2 (la2 σ 6 (prR σ x) x) 7 (prR σ x) y) th) := by
  obtain ⟨G0, hG0, eG0⟩ := hM.out
  induction m with
  | zero =>
    intro hm hg
    have ep := prR_e (Nat.zero_le _) (fun i hi => absurd hi (Nat.not_lt_zero _)) hg
    refine sw_iload_n (pc' := 102) rfl dX5_pair_101 rfl ?_
    refine sw_if_le (pc' := 105) (tgt := 126) rfl dX5_pair_102 (by decide +kernel) (fun c102 => ?_) (fun c102 => ?_)
    · rw [ep]
      refine sw_aload_n (pc' := 127) rfl dX5_pair_126 rfl ?_
      refine sw_bipush (pc' := 129) (v := 6) rfl dX5_pair_127 (by decide +kernel) ?_
      refine sw_iload_n (pc' := 130) rfl dX5_pair_129 rfl ?_
      refine sw_iload_n (pc' := 131) rfl dX5_pair_130 rfl ?_
      refine sw_V (M' := MX5_comeAt) (d' := d - 1) (bc' := 0) (bs' := 0) (ci := 6) (as := [_, _, _]) dX5_pair_131 w_1199 ok_X5_comeAt (q_comeAt hM hA (k := 6) (p := 0) (by decide +kernel) (by omega) (by omega)) hM.ob rfl (by omega) (Nat.le_of_ble_eq_true rfl) (Nat.zero_le _) (Nat.zero_le _) (fun E h' n' _ z => rp_x z) (rp_k (fun p pρ pτ pM pA pF => ?_))
      obtain ⟨Gp, hGp, eGp⟩ := pM.out
      refine sw_aload_n (pc' := 135) rfl dX5_pair_134 rfl ?_
      refine sw_bipush (pc' := 137) (v := 7) rfl dX5_pair_135 (by decide +kernel) ?_
      refine sw_iload_n (pc' := 138) rfl dX5_pair_137 rfl ?_
      refine sw_iload_n (pc' := 139) rfl dX5_pair_138 rfl ?_
      have e7 : (la2 σ 6 0 x).2.1 7 = σ.2.1 7 := la2_o (by decide +kernel)
      refine sw_V (M' := MX5_comeAt) (d' := d - 1) (bc' := 0) (bs' := 0) (ci := 6) (as := [_, _, _]) dX5_pair_139 w_1199 ok_X5_comeAt (q_comeAt pM pA (k := 7) (p := 0) (by decide +kernel) (by omega) (by omega)) pM.ob rfl (by omega) (Nat.le_of_ble_eq_true rfl) (Nat.zero_le _) (Nat.zero_le _) (fun E h' n' _ z => rp_x z) (rp_k (fun p2 p2ρ p2τ p2M p2A p2F => ?_))
      obtain ⟨Gp2, hGp2, eGp2⟩ := p2M.out
      refine sw_iconst (pc' := 143) (v := (-1)) rfl dX5_pair_142 (by decide +kernel) ?_
      refine sw_ret (v := some _) ⟨dX5_pair_143, _, rfl, rfl⟩ ?_
      exact ⟨rfl, rfl, ⟨_, _, p2M, p2A⟩, pF.tr p2F (Nat.le_refl _)⟩
    · exact absurd (Int32.le_refl 0) c102
  | succ m ih =>
    intro hm hg
    refine sw_iload_n (pc' := 102) rfl dX5_pair_101 rfl ?_
    refine sw_if_le (pc' := 105) (tgt := 126) rfl dX5_pair_102 (by decide +kernel) (fun c102 => ?_) (fun c102 => ?_)
    · exact absurd c102 (nI_nle (by omega) (by omega))
    · refine sw_aload_n (pc' := 106) rfl dX5_pair_105 rfl ?_
      refine sw_getf (ci := 6) (k := 3) (pc' := 109) rfl dX5_pair_106 (by decide +kernel) w_1116 hM.ob rfl ?_
      refine sw_bipush (pc' := 111) (v := 6) rfl dX5_pair_109 (by decide +kernel) ?_
      refine sw_aald (j := 6) (pc' := 112) rfl dX5_pair_111 hG0 (by decide +kernel) (by decide +kernel) rfl (by omega) (by decide +kernel) (eG0 6 (by omega)) ?_
      refine sw_iload_n (pc' := 113) rfl dX5_pair_112 rfl ?_
      refine sw_iconst (pc' := 114) (v := 1) rfl dX5_pair_113 (by decide +kernel) ?_
      refine sw_isub (pc' := 115) rfl dX5_pair_114 ?_
      refine sw_iald (j := m) (pc' := 116) rfl dX5_pair_115 (hM.row (k := 6) (by omega)) (nI_pred m) (by omega) (by decide +kernel) ?_
      rw [hA.1 6 (by omega) m (by omega)]
      refine sw_iload_n (pc' := 117) rfl dX5_pair_116 rfl ?_
      refine sw_icmp_le (pc' := 120) (tgt := 126) rfl dX5_pair_117 (by decide +kernel) (fun c117 => ?_) (fun c117 => ?_)
      · have hlt : σ.1 6 m < x := Int32.lt_of_le_of_ne c117 (hx m (by omega))
        have ep := prR_e hm (srt_up hs (by omega) hlt) hg
        rw [ep]
        refine sw_aload_n (pc' := 127) rfl dX5_pair_126 rfl ?_
        refine sw_bipush (pc' := 129) (v := 6) rfl dX5_pair_127 (by decide +kernel) ?_
        refine sw_iload_n (pc' := 130) rfl dX5_pair_129 rfl ?_
        refine sw_iload_n (pc' := 131) rfl dX5_pair_130 rfl ?_
        refine sw_V (M' := MX5_comeAt) (d' := d - 1) (bc' := 0) (bs' := 0) (ci := 6) (as := [_, _, _]) dX5_pair_131 w_1199 ok_X5_comeAt (q_comeAt hM hA (k := 6) (p := m + 1) (by decide +kernel) (by omega) (by omega)) hM.ob rfl (by omega) (Nat.le_of_ble_eq_true rfl) (Nat.zero_le _) (Nat.zero_le _) (fun E h' n' _ z => rp_x z) (rp_k (fun p pρ pτ pM pA pF => ?_))
        obtain ⟨Gp, hGp, eGp⟩ := pM.out
        refine sw_aload_n (pc' := 135) rfl dX5_pair_134 rfl ?_
        refine sw_bipush (pc' := 137) (v := 7) rfl dX5_pair_135 (by decide +kernel) ?_
        refine sw_iload_n (pc' := 138) rfl dX5_pair_137 rfl ?_
        refine sw_iload_n (pc' := 139) rfl dX5_pair_138 rfl ?_
        have e7 : (la2 σ 6 (m + 1) x).2.1 7 = σ.2.1 7 := la2_o (by decide +kernel)
        refine sw_V (M' := MX5_comeAt) (d' := d - 1) (bc' := 0) (bs' := 0) (ci := 6) (as := [_, _, _]) dX5_pair_139 w_1199 ok_X5_comeAt (q_comeAt pM pA (k := 7) (p := m + 1) (by decide +kernel) (by omega) (by omega)) pM.ob rfl (by omega) (Nat.le_of_ble_eq_true rfl) (Nat.zero_le _) (Nat.zero_le _) (fun E h' n' _ z => rp_x z) (rp_k (fun p2 p2ρ p2τ p2M p2A p2F => ?_))
        obtain ⟨Gp2, hGp2, eGp2⟩ := p2M.out
        refine sw_iconst (pc' := 143) (v := (-1)) rfl dX5_pair_142 (by decide +kernel) ?_
        refine sw_ret (v := some _) ⟨dX5_pair_143, _, rfl, rfl⟩ ?_
        exact ⟨rfl, rfl, ⟨_, _, p2M, p2A⟩, pF.tr p2F (Nat.le_refl _)⟩
      · refine sw_iinc (pc' := 123) (lv' := [(3, _), (0, _), (1, _), (2, _)]) (v := nI m) rfl dX5_pair_120 rfl ((i_m1 _).trans (nI_pred m)) (by decide +kernel) rfl ?_
        refine sw_goto (tgt := 101) dX5_pair_123 (by decide +kernel) ?_
        refine ih (by omega) (fun i h1 h2 => ?_)
        by_cases e : i = m
        · rw [e]; exact Int32.not_lt.mpr (Int32.le_of_lt (Int32.not_le.mp c117))
        · exact hg i (by omega) h2
theorem q_pair {h : AH} {d bc bs n : Nat} {σ : CS} {th : Int32} {x y : Int32} (hR : RMo h σ th) (hI : Iv σ) (hn : 159 ≤ n) (hd : 8 ≤ d) (h1 : 1 ≤ bc) (h2 : 12 ≤ bs)  : SM SR0 MX5_pair d bc bs [.ref 135, .int x, .int y] h n (PM h n (tc sA sS) (opPair σ x y)) := by
  obtain ⟨ρ, τ, hM, hA⟩ := hR
  obtain ⟨G0, hG0, eG0⟩ := hM.out
  refine sm_of pn_OverwalksModel rfl (Nat.le_of_ble_eq_true rfl) ?_
  rcases e1 : fpN (σ.1 6) x 0 (σ.2.1 6) with _ | p
  · skip
    rcases Classical.em (x < 0 ∨ 100 ≤ x) with qx | qx
    · refine sw_aload_n (pc' := 1) rfl dX5_pair_0 rfl ?_
      refine sw_bipush (pc' := 3) (v := 6) rfl dX5_pair_1 (by decide +kernel) ?_
      refine sw_iload_n (pc' := 4) rfl dX5_pair_3 rfl ?_
      refine sw_V (M' := MX5_firstPlace) (d' := d - 1) (bc' := 0) (bs' := 0) (ci := 6) (as := [_, _]) dX5_pair_4 w_1219 ok_X5_firstPlace (q_firstPlace hM hA (k := 6) (by omega) (hI.1 6 (by omega))) hM.ob rfl (by omega) (Nat.le_of_ble_eq_true rfl) (Nat.zero_le _) (Nat.zero_le _) (fun E h' n' _ z => det_x z) (det_k ?_)
      rw [e1]
      show SW _ _ _ _ _ _ _ (.int (-1) :: _) _ _ _
      refine sw_istore_n (pc' := 8) (lv' := [(3, _), (0, _), (1, _), (2, _)]) rfl dX5_pair_7 (by decide +kernel) rfl ?_
      refine sw_aload_n (pc' := 9) rfl dX5_pair_8 rfl ?_
      refine sw_iload_n (pc' := 10) rfl dX5_pair_9 rfl ?_
      refine sw_iconst (pc' := 11) (v := 0) rfl dX5_pair_10 (by decide +kernel) ?_
      refine sw_bipush (pc' := 13) (v := 99) rfl dX5_pair_11 (by decide +kernel) ?_
      refine sw_S (M' := MX5_isIn) (d' := d - 1) (bc' := 0) (bs' := 0) (as := [_, _, _]) dX5_pair_13 w_1168 ok_X5_isIn (q_isIn) (by omega) (Nat.le_of_ble_eq_true rfl) (Nat.zero_le _) (Nat.zero_le _) (fun E h' n' _ z => det_x z) (det_k ?_)
      rw [show inB x 0 99 = false from inB_99x qx]
      show SW _ _ _ _ _ _ _ (.int 0 :: _) _ _ _
      refine sw_if_eq (pc' := 19) (tgt := 29) rfl dX5_pair_16 (by decide +kernel) (fun c16 => ?_) (fun c16 => ?_)
      · refine sw_iconst (pc' := 30) (v := 1) rfl dX5_pair_29 (by decide +kernel) ?_
        refine sw_goto (tgt := 34) dX5_pair_30 (by decide +kernel) ?_
        refine sw_iload_n (pc' := 35) rfl dX5_pair_34 rfl ?_
        refine sw_iconst (pc' := 36) (v := (-1)) rfl dX5_pair_35 (by decide +kernel) ?_
        refine sw_icmp_ne (pc' := 39) (tgt := 55) rfl dX5_pair_36 (by decide +kernel) (fun c36 => ?_) (fun c36 => ?_)
        · exact absurd c36 (by decide +kernel)
        · refine sw_aload_n (pc' := 40) rfl dX5_pair_39 rfl ?_
          refine sw_getf (ci := 6) (k := 4) (pc' := 43) rfl dX5_pair_40 (by decide +kernel) w_1117 hM.ob rfl ?_
          refine sw_bipush (pc' := 45) (v := 6) rfl dX5_pair_43 (by decide +kernel) ?_
          refine sw_iald (j := 6) (pc' := 46) rfl dX5_pair_45 hM.sz rfl (by omega) (by decide +kernel) ?_
          refine sw_bipush (pc' := 48) (v := 12) rfl dX5_pair_46 (by decide +kernel) ?_
          refine sw_icmp_ne (pc' := 51) (tgt := 55) rfl dX5_pair_48 (by decide +kernel) (fun c48 => ?_) (fun c48 => ?_)
          · refine sw_iconst (pc' := 56) (v := 0) rfl dX5_pair_55 (by decide +kernel) ?_
            refine sw_V (M' := MX5_isStopped_) (d' := d - 1) (bc' := 0) (bs' := 0) (ci := 6) (as := [_, _]) dX5_pair_56 w_1215 ok_X5_isStopped_ (q_isStopped2 (a := true) (b := false) hM hA (by omega)) hM.ob rfl (by omega) (Nat.le_of_ble_eq_true rfl) (Nat.zero_le _) (Nat.zero_le _) (fun E h' n' _ z => rp_x z) (rp_k (fun p56 p56ρ p56τ p56M p56A p56F => ?_))
            obtain ⟨Gp56, hGp56, eGp56⟩ := p56M.out
            show SW _ _ _ _ _ _ _ (.int 1 :: _) _ _ _
            refine sw_if_eq (pc' := 62) (tgt := 64) rfl dX5_pair_59 (by decide +kernel) (fun c59 => ?_) (fun c59 => ?_)
            · exact absurd c59 (by decide +kernel)
            · refine sw_iconst (pc' := 63) (v := 0) rfl dX5_pair_62 (by decide +kernel) ?_
              refine sw_ret (v := some _) ⟨dX5_pair_63, _, rfl, rfl⟩ ?_
              rw [opPair, if_pos qx]
              exact pm_x tc_1 p56M p56A p56F (Nat.le_refl _)
          · refine sw_iconst (pc' := 52) (v := 1) rfl dX5_pair_51 (by decide +kernel) ?_
            refine sw_goto (tgt := 56) dX5_pair_52 (by decide +kernel) ?_
            refine sw_V (M' := MX5_isStopped_) (d' := d - 1) (bc' := 0) (bs' := 0) (ci := 6) (as := [_, _]) dX5_pair_56 w_1215 ok_X5_isStopped_ (q_isStopped2 (a := true) (b := true) hM hA (by omega)) hM.ob rfl (by omega) (Nat.le_of_ble_eq_true rfl) (Nat.zero_le _) (Nat.zero_le _) (fun E h' n' _ z => rp_x z) (rp_k (fun p56 p56ρ p56τ p56M p56A p56F => ?_))
            obtain ⟨Gp56, hGp56, eGp56⟩ := p56M.out
            show SW _ _ _ _ _ _ _ (.int 1 :: _) _ _ _
            refine sw_if_eq (pc' := 62) (tgt := 64) rfl dX5_pair_59 (by decide +kernel) (fun c59 => ?_) (fun c59 => ?_)
            · exact absurd c59 (by decide +kernel)
            · refine sw_iconst (pc' := 63) (v := 0) rfl dX5_pair_62 (by decide +kernel) ?_
              refine sw_ret (v := some _) ⟨dX5_pair_63, _, rfl, rfl⟩ ?_
              rw [opPair, if_pos qx]
              exact pm_x tc_1 p56M p56A p56F (Nat.le_refl _)
      · exact absurd c16 (by decide +kernel)
    rcases Classical.em (y < 0 ∨ 100 ≤ y) with qy | qy
    · refine sw_aload_n (pc' := 1) rfl dX5_pair_0 rfl ?_
      refine sw_bipush (pc' := 3) (v := 6) rfl dX5_pair_1 (by decide +kernel) ?_
      refine sw_iload_n (pc' := 4) rfl dX5_pair_3 rfl ?_
      refine sw_V (M' := MX5_firstPlace) (d' := d - 1) (bc' := 0) (bs' := 0) (ci := 6) (as := [_, _]) dX5_pair_4 w_1219 ok_X5_firstPlace (q_firstPlace hM hA (k := 6) (by omega) (hI.1 6 (by omega))) hM.ob rfl (by omega) (Nat.le_of_ble_eq_true rfl) (Nat.zero_le _) (Nat.zero_le _) (fun E h' n' _ z => det_x z) (det_k ?_)
      rw [e1]
      show SW _ _ _ _ _ _ _ (.int (-1) :: _) _ _ _
      refine sw_istore_n (pc' := 8) (lv' := [(3, _), (0, _), (1, _), (2, _)]) rfl dX5_pair_7 (by decide +kernel) rfl ?_
      refine sw_aload_n (pc' := 9) rfl dX5_pair_8 rfl ?_
      refine sw_iload_n (pc' := 10) rfl dX5_pair_9 rfl ?_
      refine sw_iconst (pc' := 11) (v := 0) rfl dX5_pair_10 (by decide +kernel) ?_
      refine sw_bipush (pc' := 13) (v := 99) rfl dX5_pair_11 (by decide +kernel) ?_
      refine sw_S (M' := MX5_isIn) (d' := d - 1) (bc' := 0) (bs' := 0) (as := [_, _, _]) dX5_pair_13 w_1168 ok_X5_isIn (q_isIn) (by omega) (Nat.le_of_ble_eq_true rfl) (Nat.zero_le _) (Nat.zero_le _) (fun E h' n' _ z => det_x z) (det_k ?_)
      rw [show inB x 0 99 = true from inB_99 qx]
      show SW _ _ _ _ _ _ _ (.int 1 :: _) _ _ _
      refine sw_if_eq (pc' := 19) (tgt := 29) rfl dX5_pair_16 (by decide +kernel) (fun c16 => ?_) (fun c16 => ?_)
      · exact absurd c16 (by decide +kernel)
      · refine sw_iload_n (pc' := 20) rfl dX5_pair_19 rfl ?_
        refine sw_iconst (pc' := 21) (v := 0) rfl dX5_pair_20 (by decide +kernel) ?_
        refine sw_bipush (pc' := 23) (v := 99) rfl dX5_pair_21 (by decide +kernel) ?_
        refine sw_S (M' := MX5_isIn) (d' := d - 1) (bc' := 0) (bs' := 0) (as := [_, _, _]) dX5_pair_23 w_1168 ok_X5_isIn (q_isIn) (by omega) (Nat.le_of_ble_eq_true rfl) (Nat.zero_le _) (Nat.zero_le _) (fun E h' n' _ z => det_x z) (det_k ?_)
        rw [show inB y 0 99 = false from inB_99x qy]
        show SW _ _ _ _ _ _ _ (.int 0 :: _) _ _ _
        refine sw_if_ne (pc' := 29) (tgt := 33) rfl dX5_pair_26 (by decide +kernel) (fun c26 => ?_) (fun c26 => ?_)
        · exact absurd c26 (by decide +kernel)
        · refine sw_iconst (pc' := 30) (v := 1) rfl dX5_pair_29 (by decide +kernel) ?_
          refine sw_goto (tgt := 34) dX5_pair_30 (by decide +kernel) ?_
          refine sw_iload_n (pc' := 35) rfl dX5_pair_34 rfl ?_
          refine sw_iconst (pc' := 36) (v := (-1)) rfl dX5_pair_35 (by decide +kernel) ?_
          refine sw_icmp_ne (pc' := 39) (tgt := 55) rfl dX5_pair_36 (by decide +kernel) (fun c36 => ?_) (fun c36 => ?_)
          · exact absurd c36 (by decide +kernel)
          · refine sw_aload_n (pc' := 40) rfl dX5_pair_39 rfl ?_
            refine sw_getf (ci := 6) (k := 4) (pc' := 43) rfl dX5_pair_40 (by decide +kernel) w_1117 hM.ob rfl ?_
            refine sw_bipush (pc' := 45) (v := 6) rfl dX5_pair_43 (by decide +kernel) ?_
            refine sw_iald (j := 6) (pc' := 46) rfl dX5_pair_45 hM.sz rfl (by omega) (by decide +kernel) ?_
            refine sw_bipush (pc' := 48) (v := 12) rfl dX5_pair_46 (by decide +kernel) ?_
            refine sw_icmp_ne (pc' := 51) (tgt := 55) rfl dX5_pair_48 (by decide +kernel) (fun c48 => ?_) (fun c48 => ?_)
            · refine sw_iconst (pc' := 56) (v := 0) rfl dX5_pair_55 (by decide +kernel) ?_
              refine sw_V (M' := MX5_isStopped_) (d' := d - 1) (bc' := 0) (bs' := 0) (ci := 6) (as := [_, _]) dX5_pair_56 w_1215 ok_X5_isStopped_ (q_isStopped2 (a := true) (b := false) hM hA (by omega)) hM.ob rfl (by omega) (Nat.le_of_ble_eq_true rfl) (Nat.zero_le _) (Nat.zero_le _) (fun E h' n' _ z => rp_x z) (rp_k (fun p56 p56ρ p56τ p56M p56A p56F => ?_))
              obtain ⟨Gp56, hGp56, eGp56⟩ := p56M.out
              show SW _ _ _ _ _ _ _ (.int 1 :: _) _ _ _
              refine sw_if_eq (pc' := 62) (tgt := 64) rfl dX5_pair_59 (by decide +kernel) (fun c59 => ?_) (fun c59 => ?_)
              · exact absurd c59 (by decide +kernel)
              · refine sw_iconst (pc' := 63) (v := 0) rfl dX5_pair_62 (by decide +kernel) ?_
                refine sw_ret (v := some _) ⟨dX5_pair_63, _, rfl, rfl⟩ ?_
                rw [opPair, if_neg qx, if_pos qy]
                exact pm_x tc_1 p56M p56A p56F (Nat.le_refl _)
            · refine sw_iconst (pc' := 52) (v := 1) rfl dX5_pair_51 (by decide +kernel) ?_
              refine sw_goto (tgt := 56) dX5_pair_52 (by decide +kernel) ?_
              refine sw_V (M' := MX5_isStopped_) (d' := d - 1) (bc' := 0) (bs' := 0) (ci := 6) (as := [_, _]) dX5_pair_56 w_1215 ok_X5_isStopped_ (q_isStopped2 (a := true) (b := true) hM hA (by omega)) hM.ob rfl (by omega) (Nat.le_of_ble_eq_true rfl) (Nat.zero_le _) (Nat.zero_le _) (fun E h' n' _ z => rp_x z) (rp_k (fun p56 p56ρ p56τ p56M p56A p56F => ?_))
              obtain ⟨Gp56, hGp56, eGp56⟩ := p56M.out
              show SW _ _ _ _ _ _ _ (.int 1 :: _) _ _ _
              refine sw_if_eq (pc' := 62) (tgt := 64) rfl dX5_pair_59 (by decide +kernel) (fun c59 => ?_) (fun c59 => ?_)
              · exact absurd c59 (by decide +kernel)
              · refine sw_iconst (pc' := 63) (v := 0) rfl dX5_pair_62 (by decide +kernel) ?_
                refine sw_ret (v := some _) ⟨dX5_pair_63, _, rfl, rfl⟩ ?_
                rw [opPair, if_neg qx, if_pos qy]
                exact pm_x tc_1 p56M p56A p56F (Nat.le_refl _)
    rcases Classical.em (12 < nI (σ.2.1 6) + 1) with qr | qr
    · refine sw_aload_n (pc' := 1) rfl dX5_pair_0 rfl ?_
      refine sw_bipush (pc' := 3) (v := 6) rfl dX5_pair_1 (by decide +kernel) ?_
      refine sw_iload_n (pc' := 4) rfl dX5_pair_3 rfl ?_
      refine sw_V (M' := MX5_firstPlace) (d' := d - 1) (bc' := 0) (bs' := 0) (ci := 6) (as := [_, _]) dX5_pair_4 w_1219 ok_X5_firstPlace (q_firstPlace hM hA (k := 6) (by omega) (hI.1 6 (by omega))) hM.ob rfl (by omega) (Nat.le_of_ble_eq_true rfl) (Nat.zero_le _) (Nat.zero_le _) (fun E h' n' _ z => det_x z) (det_k ?_)
      rw [e1]
      show SW _ _ _ _ _ _ _ (.int (-1) :: _) _ _ _
      refine sw_istore_n (pc' := 8) (lv' := [(3, _), (0, _), (1, _), (2, _)]) rfl dX5_pair_7 (by decide +kernel) rfl ?_
      refine sw_aload_n (pc' := 9) rfl dX5_pair_8 rfl ?_
      refine sw_iload_n (pc' := 10) rfl dX5_pair_9 rfl ?_
      refine sw_iconst (pc' := 11) (v := 0) rfl dX5_pair_10 (by decide +kernel) ?_
      refine sw_bipush (pc' := 13) (v := 99) rfl dX5_pair_11 (by decide +kernel) ?_
      refine sw_S (M' := MX5_isIn) (d' := d - 1) (bc' := 0) (bs' := 0) (as := [_, _, _]) dX5_pair_13 w_1168 ok_X5_isIn (q_isIn) (by omega) (Nat.le_of_ble_eq_true rfl) (Nat.zero_le _) (Nat.zero_le _) (fun E h' n' _ z => det_x z) (det_k ?_)
      rw [show inB x 0 99 = true from inB_99 qx]
      show SW _ _ _ _ _ _ _ (.int 1 :: _) _ _ _
      refine sw_if_eq (pc' := 19) (tgt := 29) rfl dX5_pair_16 (by decide +kernel) (fun c16 => ?_) (fun c16 => ?_)
      · exact absurd c16 (by decide +kernel)
      · refine sw_iload_n (pc' := 20) rfl dX5_pair_19 rfl ?_
        refine sw_iconst (pc' := 21) (v := 0) rfl dX5_pair_20 (by decide +kernel) ?_
        refine sw_bipush (pc' := 23) (v := 99) rfl dX5_pair_21 (by decide +kernel) ?_
        refine sw_S (M' := MX5_isIn) (d' := d - 1) (bc' := 0) (bs' := 0) (as := [_, _, _]) dX5_pair_23 w_1168 ok_X5_isIn (q_isIn) (by omega) (Nat.le_of_ble_eq_true rfl) (Nat.zero_le _) (Nat.zero_le _) (fun E h' n' _ z => det_x z) (det_k ?_)
        rw [show inB y 0 99 = true from inB_99 qy]
        show SW _ _ _ _ _ _ _ (.int 1 :: _) _ _ _
        refine sw_if_ne (pc' := 29) (tgt := 33) rfl dX5_pair_26 (by decide +kernel) (fun c26 => ?_) (fun c26 => ?_)
        · refine sw_iconst (pc' := 34) (v := 0) rfl dX5_pair_33 (by decide +kernel) ?_
          refine sw_iload_n (pc' := 35) rfl dX5_pair_34 rfl ?_
          refine sw_iconst (pc' := 36) (v := (-1)) rfl dX5_pair_35 (by decide +kernel) ?_
          refine sw_icmp_ne (pc' := 39) (tgt := 55) rfl dX5_pair_36 (by decide +kernel) (fun c36 => ?_) (fun c36 => ?_)
          · exact absurd c36 (by decide +kernel)
          · refine sw_aload_n (pc' := 40) rfl dX5_pair_39 rfl ?_
            refine sw_getf (ci := 6) (k := 4) (pc' := 43) rfl dX5_pair_40 (by decide +kernel) w_1117 hM.ob rfl ?_
            refine sw_bipush (pc' := 45) (v := 6) rfl dX5_pair_43 (by decide +kernel) ?_
            refine sw_iald (j := 6) (pc' := 46) rfl dX5_pair_45 hM.sz rfl (by omega) (by decide +kernel) ?_
            refine sw_bipush (pc' := 48) (v := 12) rfl dX5_pair_46 (by decide +kernel) ?_
            refine sw_icmp_ne (pc' := 51) (tgt := 55) rfl dX5_pair_48 (by decide +kernel) (fun c48 => ?_) (fun c48 => ?_)
            · exact absurd ((nI12 (hI.1 6 (by decide +kernel))).mpr (full (hI.1 6 (by decide +kernel)) qr)) c48
            · refine sw_iconst (pc' := 52) (v := 1) rfl dX5_pair_51 (by decide +kernel) ?_
              refine sw_goto (tgt := 56) dX5_pair_52 (by decide +kernel) ?_
              refine sw_V (M' := MX5_isStopped_) (d' := d - 1) (bc' := 0) (bs' := 0) (ci := 6) (as := [_, _]) dX5_pair_56 w_1215 ok_X5_isStopped_ (q_isStopped2 (a := false) (b := true) hM hA (by omega)) hM.ob rfl (by omega) (Nat.le_of_ble_eq_true rfl) (Nat.zero_le _) (Nat.zero_le _) (fun E h' n' _ z => rp_x z) (rp_k (fun p56 p56ρ p56τ p56M p56A p56F => ?_))
              obtain ⟨Gp56, hGp56, eGp56⟩ := p56M.out
              show SW _ _ _ _ _ _ _ (.int 1 :: _) _ _ _
              refine sw_if_eq (pc' := 62) (tgt := 64) rfl dX5_pair_59 (by decide +kernel) (fun c59 => ?_) (fun c59 => ?_)
              · exact absurd c59 (by decide +kernel)
              · refine sw_iconst (pc' := 63) (v := 0) rfl dX5_pair_62 (by decide +kernel) ?_
                refine sw_ret (v := some _) ⟨dX5_pair_63, _, rfl, rfl⟩ ?_
                rw [opPair, if_neg qx, if_neg qy, e1, if_pos qr]
                exact pm_x (tc_2 sSA) p56M p56A p56F (Nat.le_refl _)
        · exact absurd c26 (by decide +kernel)
    have hroom := full_n (hI.1 6 (by decide +kernel)) qr
    refine sw_aload_n (pc' := 1) rfl dX5_pair_0 rfl ?_
    refine sw_bipush (pc' := 3) (v := 6) rfl dX5_pair_1 (by decide +kernel) ?_
    refine sw_iload_n (pc' := 4) rfl dX5_pair_3 rfl ?_
    refine sw_V (M' := MX5_firstPlace) (d' := d - 1) (bc' := 0) (bs' := 0) (ci := 6) (as := [_, _]) dX5_pair_4 w_1219 ok_X5_firstPlace (q_firstPlace hM hA (k := 6) (by omega) (hI.1 6 (by omega))) hM.ob rfl (by omega) (Nat.le_of_ble_eq_true rfl) (Nat.zero_le _) (Nat.zero_le _) (fun E h' n' _ z => det_x z) (det_k ?_)
    rw [e1]
    show SW _ _ _ _ _ _ _ (.int (-1) :: _) _ _ _
    refine sw_istore_n (pc' := 8) (lv' := [(3, _), (0, _), (1, _), (2, _)]) rfl dX5_pair_7 (by decide +kernel) rfl ?_
    refine sw_aload_n (pc' := 9) rfl dX5_pair_8 rfl ?_
    refine sw_iload_n (pc' := 10) rfl dX5_pair_9 rfl ?_
    refine sw_iconst (pc' := 11) (v := 0) rfl dX5_pair_10 (by decide +kernel) ?_
    refine sw_bipush (pc' := 13) (v := 99) rfl dX5_pair_11 (by decide +kernel) ?_
    refine sw_S (M' := MX5_isIn) (d' := d - 1) (bc' := 0) (bs' := 0) (as := [_, _, _]) dX5_pair_13 w_1168 ok_X5_isIn (q_isIn) (by omega) (Nat.le_of_ble_eq_true rfl) (Nat.zero_le _) (Nat.zero_le _) (fun E h' n' _ z => det_x z) (det_k ?_)
    rw [show inB x 0 99 = true from inB_99 qx]
    show SW _ _ _ _ _ _ _ (.int 1 :: _) _ _ _
    refine sw_if_eq (pc' := 19) (tgt := 29) rfl dX5_pair_16 (by decide +kernel) (fun c16 => ?_) (fun c16 => ?_)
    · exact absurd c16 (by decide +kernel)
    · refine sw_iload_n (pc' := 20) rfl dX5_pair_19 rfl ?_
      refine sw_iconst (pc' := 21) (v := 0) rfl dX5_pair_20 (by decide +kernel) ?_
      refine sw_bipush (pc' := 23) (v := 99) rfl dX5_pair_21 (by decide +kernel) ?_
      refine sw_S (M' := MX5_isIn) (d' := d - 1) (bc' := 0) (bs' := 0) (as := [_, _, _]) dX5_pair_23 w_1168 ok_X5_isIn (q_isIn) (by omega) (Nat.le_of_ble_eq_true rfl) (Nat.zero_le _) (Nat.zero_le _) (fun E h' n' _ z => det_x z) (det_k ?_)
      rw [show inB y 0 99 = true from inB_99 qy]
      show SW _ _ _ _ _ _ _ (.int 1 :: _) _ _ _
      refine sw_if_ne (pc' := 29) (tgt := 33) rfl dX5_pair_26 (by decide +kernel) (fun c26 => ?_) (fun c26 => ?_)
      · refine sw_iconst (pc' := 34) (v := 0) rfl dX5_pair_33 (by decide +kernel) ?_
        refine sw_iload_n (pc' := 35) rfl dX5_pair_34 rfl ?_
        refine sw_iconst (pc' := 36) (v := (-1)) rfl dX5_pair_35 (by decide +kernel) ?_
        refine sw_icmp_ne (pc' := 39) (tgt := 55) rfl dX5_pair_36 (by decide +kernel) (fun c36 => ?_) (fun c36 => ?_)
        · exact absurd c36 (by decide +kernel)
        · refine sw_aload_n (pc' := 40) rfl dX5_pair_39 rfl ?_
          refine sw_getf (ci := 6) (k := 4) (pc' := 43) rfl dX5_pair_40 (by decide +kernel) w_1117 hM.ob rfl ?_
          refine sw_bipush (pc' := 45) (v := 6) rfl dX5_pair_43 (by decide +kernel) ?_
          refine sw_iald (j := 6) (pc' := 46) rfl dX5_pair_45 hM.sz rfl (by omega) (by decide +kernel) ?_
          refine sw_bipush (pc' := 48) (v := 12) rfl dX5_pair_46 (by decide +kernel) ?_
          refine sw_icmp_ne (pc' := 51) (tgt := 55) rfl dX5_pair_48 (by decide +kernel) (fun c48 => ?_) (fun c48 => ?_)
          · refine sw_iconst (pc' := 56) (v := 0) rfl dX5_pair_55 (by decide +kernel) ?_
            refine sw_V (M' := MX5_isStopped_) (d' := d - 1) (bc' := 0) (bs' := 0) (ci := 6) (as := [_, _]) dX5_pair_56 w_1215 ok_X5_isStopped_ (q_isStopped2 (a := false) (b := false) hM hA (by omega)) hM.ob rfl (by omega) (Nat.le_of_ble_eq_true rfl) (Nat.zero_le _) (Nat.zero_le _) (fun E h' n' _ z => rp_x z) (rp_k (fun p56 p56ρ p56τ p56M p56A p56F => ?_))
            obtain ⟨Gp56, hGp56, eGp56⟩ := p56M.out
            show SW _ _ _ _ _ _ _ (.int 0 :: _) _ _ _
            refine sw_if_eq (pc' := 62) (tgt := 64) rfl dX5_pair_59 (by decide +kernel) (fun c59 => ?_) (fun c59 => ?_)
            · refine sw_iload_n (pc' := 65) rfl dX5_pair_64 rfl ?_
              refine sw_iconst (pc' := 66) (v := (-1)) rfl dX5_pair_65 (by decide +kernel) ?_
              refine sw_icmp_eq (pc' := 69) (tgt := 93) rfl dX5_pair_66 (by decide +kernel) (fun c66 => ?_) (fun c66 => ?_)
              · refine sw_aload_n (pc' := 94) rfl dX5_pair_93 rfl ?_
                refine sw_getf (ci := 6) (k := 4) (pc' := 97) rfl dX5_pair_94 (by decide +kernel) w_1117 p56M.ob rfl ?_
                refine sw_bipush (pc' := 99) (v := 6) rfl dX5_pair_97 (by decide +kernel) ?_
                refine sw_iald (j := 6) (pc' := 100) rfl dX5_pair_99 p56M.sz rfl (by omega) (by decide +kernel) ?_
                refine sw_istore_n (pc' := 101) (lv' := [(3, _), (0, _), (1, _), (2, _)]) rfl dX5_pair_100 (by decide +kernel) rfl ?_
                have g := ql_pair (d := d) (bc := bc) (bs := bs) (n := n) (x := x) (y := y) p56M p56A hI.2.2.2.2.1 (fun i hi => fpN_none.mp e1 i (Nat.zero_le _) (by omega)) hroom hI.2.1 (by omega) (σ.2.1 6) (Nat.le_refl _) (fun i h1 h2 => absurd h2 (by omega))
                refine SW.post g (fun r' h' n' z => ?_)
                obtain ⟨rfl, rfl, ⟨_, _, qM, qA⟩, qF⟩ := z
                rw [opPair, if_neg qx, if_neg qy, e1, if_neg qr]
                exact pm_k qM qA (p56F.tr qF (Nat.le_refl _)) (Nat.le_refl _)
              · exact absurd c66 (by decide +kernel)
            · exact absurd c59 (by decide +kernel)
          · exact absurd ((nI12 (hI.1 6 (by decide +kernel))).mp c48) (by omega)
      · exact absurd c26 (by decide +kernel)
  · have hp := fp_i e1
    have h67 := hI.2.1
    rcases Classical.em (x < 0 ∨ 100 ≤ x) with qx | qx
    · refine sw_aload_n (pc' := 1) rfl dX5_pair_0 rfl ?_
      refine sw_bipush (pc' := 3) (v := 6) rfl dX5_pair_1 (by decide +kernel) ?_
      refine sw_iload_n (pc' := 4) rfl dX5_pair_3 rfl ?_
      refine sw_V (M' := MX5_firstPlace) (d' := d - 1) (bc' := 0) (bs' := 0) (ci := 6) (as := [_, _]) dX5_pair_4 w_1219 ok_X5_firstPlace (q_firstPlace hM hA (k := 6) (by omega) (hI.1 6 (by omega))) hM.ob rfl (by omega) (Nat.le_of_ble_eq_true rfl) (Nat.zero_le _) (Nat.zero_le _) (fun E h' n' _ z => det_x z) (det_k ?_)
      rw [e1]
      show SW _ _ _ _ _ _ _ (.int (nI p) :: _) _ _ _
      refine sw_istore_n (pc' := 8) (lv' := [(3, _), (0, _), (1, _), (2, _)]) rfl dX5_pair_7 (by decide +kernel) rfl ?_
      refine sw_aload_n (pc' := 9) rfl dX5_pair_8 rfl ?_
      refine sw_iload_n (pc' := 10) rfl dX5_pair_9 rfl ?_
      refine sw_iconst (pc' := 11) (v := 0) rfl dX5_pair_10 (by decide +kernel) ?_
      refine sw_bipush (pc' := 13) (v := 99) rfl dX5_pair_11 (by decide +kernel) ?_
      refine sw_S (M' := MX5_isIn) (d' := d - 1) (bc' := 0) (bs' := 0) (as := [_, _, _]) dX5_pair_13 w_1168 ok_X5_isIn (q_isIn) (by omega) (Nat.le_of_ble_eq_true rfl) (Nat.zero_le _) (Nat.zero_le _) (fun E h' n' _ z => det_x z) (det_k ?_)
      rw [show inB x 0 99 = false from inB_99x qx]
      show SW _ _ _ _ _ _ _ (.int 0 :: _) _ _ _
      refine sw_if_eq (pc' := 19) (tgt := 29) rfl dX5_pair_16 (by decide +kernel) (fun c16 => ?_) (fun c16 => ?_)
      · refine sw_iconst (pc' := 30) (v := 1) rfl dX5_pair_29 (by decide +kernel) ?_
        refine sw_goto (tgt := 34) dX5_pair_30 (by decide +kernel) ?_
        refine sw_iload_n (pc' := 35) rfl dX5_pair_34 rfl ?_
        refine sw_iconst (pc' := 36) (v := (-1)) rfl dX5_pair_35 (by decide +kernel) ?_
        refine sw_icmp_ne (pc' := 39) (tgt := 55) rfl dX5_pair_36 (by decide +kernel) (fun c36 => ?_) (fun c36 => ?_)
        · refine sw_iconst (pc' := 56) (v := 0) rfl dX5_pair_55 (by decide +kernel) ?_
          refine sw_V (M' := MX5_isStopped_) (d' := d - 1) (bc' := 0) (bs' := 0) (ci := 6) (as := [_, _]) dX5_pair_56 w_1215 ok_X5_isStopped_ (q_isStopped2 (a := true) (b := false) hM hA (by omega)) hM.ob rfl (by omega) (Nat.le_of_ble_eq_true rfl) (Nat.zero_le _) (Nat.zero_le _) (fun E h' n' _ z => rp_x z) (rp_k (fun p56 p56ρ p56τ p56M p56A p56F => ?_))
          obtain ⟨Gp56, hGp56, eGp56⟩ := p56M.out
          show SW _ _ _ _ _ _ _ (.int 1 :: _) _ _ _
          refine sw_if_eq (pc' := 62) (tgt := 64) rfl dX5_pair_59 (by decide +kernel) (fun c59 => ?_) (fun c59 => ?_)
          · exact absurd c59 (by decide +kernel)
          · refine sw_iconst (pc' := 63) (v := 0) rfl dX5_pair_62 (by decide +kernel) ?_
            refine sw_ret (v := some _) ⟨dX5_pair_63, _, rfl, rfl⟩ ?_
            rw [opPair, if_pos qx]
            exact pm_x tc_1 p56M p56A p56F (Nat.le_refl _)
        · exact absurd c36 (nI_ne1 (by have := hI.1 6 (by decide +kernel); omega))
      · exact absurd c16 (by decide +kernel)
    rcases Classical.em (y < 0 ∨ 100 ≤ y) with qy | qy
    · refine sw_aload_n (pc' := 1) rfl dX5_pair_0 rfl ?_
      refine sw_bipush (pc' := 3) (v := 6) rfl dX5_pair_1 (by decide +kernel) ?_
      refine sw_iload_n (pc' := 4) rfl dX5_pair_3 rfl ?_
      refine sw_V (M' := MX5_firstPlace) (d' := d - 1) (bc' := 0) (bs' := 0) (ci := 6) (as := [_, _]) dX5_pair_4 w_1219 ok_X5_firstPlace (q_firstPlace hM hA (k := 6) (by omega) (hI.1 6 (by omega))) hM.ob rfl (by omega) (Nat.le_of_ble_eq_true rfl) (Nat.zero_le _) (Nat.zero_le _) (fun E h' n' _ z => det_x z) (det_k ?_)
      rw [e1]
      show SW _ _ _ _ _ _ _ (.int (nI p) :: _) _ _ _
      refine sw_istore_n (pc' := 8) (lv' := [(3, _), (0, _), (1, _), (2, _)]) rfl dX5_pair_7 (by decide +kernel) rfl ?_
      refine sw_aload_n (pc' := 9) rfl dX5_pair_8 rfl ?_
      refine sw_iload_n (pc' := 10) rfl dX5_pair_9 rfl ?_
      refine sw_iconst (pc' := 11) (v := 0) rfl dX5_pair_10 (by decide +kernel) ?_
      refine sw_bipush (pc' := 13) (v := 99) rfl dX5_pair_11 (by decide +kernel) ?_
      refine sw_S (M' := MX5_isIn) (d' := d - 1) (bc' := 0) (bs' := 0) (as := [_, _, _]) dX5_pair_13 w_1168 ok_X5_isIn (q_isIn) (by omega) (Nat.le_of_ble_eq_true rfl) (Nat.zero_le _) (Nat.zero_le _) (fun E h' n' _ z => det_x z) (det_k ?_)
      rw [show inB x 0 99 = true from inB_99 qx]
      show SW _ _ _ _ _ _ _ (.int 1 :: _) _ _ _
      refine sw_if_eq (pc' := 19) (tgt := 29) rfl dX5_pair_16 (by decide +kernel) (fun c16 => ?_) (fun c16 => ?_)
      · exact absurd c16 (by decide +kernel)
      · refine sw_iload_n (pc' := 20) rfl dX5_pair_19 rfl ?_
        refine sw_iconst (pc' := 21) (v := 0) rfl dX5_pair_20 (by decide +kernel) ?_
        refine sw_bipush (pc' := 23) (v := 99) rfl dX5_pair_21 (by decide +kernel) ?_
        refine sw_S (M' := MX5_isIn) (d' := d - 1) (bc' := 0) (bs' := 0) (as := [_, _, _]) dX5_pair_23 w_1168 ok_X5_isIn (q_isIn) (by omega) (Nat.le_of_ble_eq_true rfl) (Nat.zero_le _) (Nat.zero_le _) (fun E h' n' _ z => det_x z) (det_k ?_)
        rw [show inB y 0 99 = false from inB_99x qy]
        show SW _ _ _ _ _ _ _ (.int 0 :: _) _ _ _
        refine sw_if_ne (pc' := 29) (tgt := 33) rfl dX5_pair_26 (by decide +kernel) (fun c26 => ?_) (fun c26 => ?_)
        · exact absurd c26 (by decide +kernel)
        · refine sw_iconst (pc' := 30) (v := 1) rfl dX5_pair_29 (by decide +kernel) ?_
          refine sw_goto (tgt := 34) dX5_pair_30 (by decide +kernel) ?_
          refine sw_iload_n (pc' := 35) rfl dX5_pair_34 rfl ?_
          refine sw_iconst (pc' := 36) (v := (-1)) rfl dX5_pair_35 (by decide +kernel) ?_
          refine sw_icmp_ne (pc' := 39) (tgt := 55) rfl dX5_pair_36 (by decide +kernel) (fun c36 => ?_) (fun c36 => ?_)
          · refine sw_iconst (pc' := 56) (v := 0) rfl dX5_pair_55 (by decide +kernel) ?_
            refine sw_V (M' := MX5_isStopped_) (d' := d - 1) (bc' := 0) (bs' := 0) (ci := 6) (as := [_, _]) dX5_pair_56 w_1215 ok_X5_isStopped_ (q_isStopped2 (a := true) (b := false) hM hA (by omega)) hM.ob rfl (by omega) (Nat.le_of_ble_eq_true rfl) (Nat.zero_le _) (Nat.zero_le _) (fun E h' n' _ z => rp_x z) (rp_k (fun p56 p56ρ p56τ p56M p56A p56F => ?_))
            obtain ⟨Gp56, hGp56, eGp56⟩ := p56M.out
            show SW _ _ _ _ _ _ _ (.int 1 :: _) _ _ _
            refine sw_if_eq (pc' := 62) (tgt := 64) rfl dX5_pair_59 (by decide +kernel) (fun c59 => ?_) (fun c59 => ?_)
            · exact absurd c59 (by decide +kernel)
            · refine sw_iconst (pc' := 63) (v := 0) rfl dX5_pair_62 (by decide +kernel) ?_
              refine sw_ret (v := some _) ⟨dX5_pair_63, _, rfl, rfl⟩ ?_
              rw [opPair, if_neg qx, if_pos qy]
              exact pm_x tc_1 p56M p56A p56F (Nat.le_refl _)
          · exact absurd c36 (nI_ne1 (by have := hI.1 6 (by decide +kernel); omega))
    refine sw_aload_n (pc' := 1) rfl dX5_pair_0 rfl ?_
    refine sw_bipush (pc' := 3) (v := 6) rfl dX5_pair_1 (by decide +kernel) ?_
    refine sw_iload_n (pc' := 4) rfl dX5_pair_3 rfl ?_
    refine sw_V (M' := MX5_firstPlace) (d' := d - 1) (bc' := 0) (bs' := 0) (ci := 6) (as := [_, _]) dX5_pair_4 w_1219 ok_X5_firstPlace (q_firstPlace hM hA (k := 6) (by omega) (hI.1 6 (by omega))) hM.ob rfl (by omega) (Nat.le_of_ble_eq_true rfl) (Nat.zero_le _) (Nat.zero_le _) (fun E h' n' _ z => det_x z) (det_k ?_)
    rw [e1]
    show SW _ _ _ _ _ _ _ (.int (nI p) :: _) _ _ _
    refine sw_istore_n (pc' := 8) (lv' := [(3, _), (0, _), (1, _), (2, _)]) rfl dX5_pair_7 (by decide +kernel) rfl ?_
    refine sw_aload_n (pc' := 9) rfl dX5_pair_8 rfl ?_
    refine sw_iload_n (pc' := 10) rfl dX5_pair_9 rfl ?_
    refine sw_iconst (pc' := 11) (v := 0) rfl dX5_pair_10 (by decide +kernel) ?_
    refine sw_bipush (pc' := 13) (v := 99) rfl dX5_pair_11 (by decide +kernel) ?_
    refine sw_S (M' := MX5_isIn) (d' := d - 1) (bc' := 0) (bs' := 0) (as := [_, _, _]) dX5_pair_13 w_1168 ok_X5_isIn (q_isIn) (by omega) (Nat.le_of_ble_eq_true rfl) (Nat.zero_le _) (Nat.zero_le _) (fun E h' n' _ z => det_x z) (det_k ?_)
    rw [show inB x 0 99 = true from inB_99 qx]
    show SW _ _ _ _ _ _ _ (.int 1 :: _) _ _ _
    refine sw_if_eq (pc' := 19) (tgt := 29) rfl dX5_pair_16 (by decide +kernel) (fun c16 => ?_) (fun c16 => ?_)
    · exact absurd c16 (by decide +kernel)
    · refine sw_iload_n (pc' := 20) rfl dX5_pair_19 rfl ?_
      refine sw_iconst (pc' := 21) (v := 0) rfl dX5_pair_20 (by decide +kernel) ?_
      refine sw_bipush (pc' := 23) (v := 99) rfl dX5_pair_21 (by decide +kernel) ?_
      refine sw_S (M' := MX5_isIn) (d' := d - 1) (bc' := 0) (bs' := 0) (as := [_, _, _]) dX5_pair_23 w_1168 ok_X5_isIn (q_isIn) (by omega) (Nat.le_of_ble_eq_true rfl) (Nat.zero_le _) (Nat.zero_le _) (fun E h' n' _ z => det_x z) (det_k ?_)
      rw [show inB y 0 99 = true from inB_99 qy]
      show SW _ _ _ _ _ _ _ (.int 1 :: _) _ _ _
      refine sw_if_ne (pc' := 29) (tgt := 33) rfl dX5_pair_26 (by decide +kernel) (fun c26 => ?_) (fun c26 => ?_)
      · refine sw_iconst (pc' := 34) (v := 0) rfl dX5_pair_33 (by decide +kernel) ?_
        refine sw_iload_n (pc' := 35) rfl dX5_pair_34 rfl ?_
        refine sw_iconst (pc' := 36) (v := (-1)) rfl dX5_pair_35 (by decide +kernel) ?_
        refine sw_icmp_ne (pc' := 39) (tgt := 55) rfl dX5_pair_36 (by decide +kernel) (fun c36 => ?_) (fun c36 => ?_)
        · refine sw_iconst (pc' := 56) (v := 0) rfl dX5_pair_55 (by decide +kernel) ?_
          refine sw_V (M' := MX5_isStopped_) (d' := d - 1) (bc' := 0) (bs' := 0) (ci := 6) (as := [_, _]) dX5_pair_56 w_1215 ok_X5_isStopped_ (q_isStopped2 (a := false) (b := false) hM hA (by omega)) hM.ob rfl (by omega) (Nat.le_of_ble_eq_true rfl) (Nat.zero_le _) (Nat.zero_le _) (fun E h' n' _ z => rp_x z) (rp_k (fun p56 p56ρ p56τ p56M p56A p56F => ?_))
          obtain ⟨Gp56, hGp56, eGp56⟩ := p56M.out
          show SW _ _ _ _ _ _ _ (.int 0 :: _) _ _ _
          refine sw_if_eq (pc' := 62) (tgt := 64) rfl dX5_pair_59 (by decide +kernel) (fun c59 => ?_) (fun c59 => ?_)
          · refine sw_iload_n (pc' := 65) rfl dX5_pair_64 rfl ?_
            refine sw_iconst (pc' := 66) (v := (-1)) rfl dX5_pair_65 (by decide +kernel) ?_
            refine sw_icmp_eq (pc' := 69) (tgt := 93) rfl dX5_pair_66 (by decide +kernel) (fun c66 => ?_) (fun c66 => ?_)
            · exact absurd c66 (nI_ne1 (by have := hI.1 6 (by decide +kernel); omega))
            · refine sw_aload_n (pc' := 70) rfl dX5_pair_69 rfl ?_
              refine sw_getf (ci := 6) (k := 3) (pc' := 73) rfl dX5_pair_70 (by decide +kernel) w_1116 p56M.ob rfl ?_
              refine sw_bipush (pc' := 75) (v := 7) rfl dX5_pair_73 (by decide +kernel) ?_
              refine sw_aald (j := 7) (pc' := 76) rfl dX5_pair_75 hGp56 (by decide +kernel) (by decide +kernel) rfl (by omega) (by decide +kernel) (eGp56 7 (by omega)) ?_
              refine sw_iload_n (pc' := 77) rfl dX5_pair_76 rfl ?_
              refine sw_iald (j := p) (pc' := 78) rfl dX5_pair_77 (p56M.row (k := 7) (by omega)) rfl (by have := hI.1 6 (by decide +kernel); omega) (by decide +kernel) ?_
              rw [p56A.1 7 (by omega) p (by omega)]
              refine sw_istore (pc' := 80) (lv' := [(4, _), (3, _), (0, _), (1, _), (2, _)]) rfl dX5_pair_78 (by decide +kernel) rfl ?_
              refine sw_aload_n (pc' := 81) rfl dX5_pair_80 rfl ?_
              refine sw_getf (ci := 6) (k := 3) (pc' := 84) rfl dX5_pair_81 (by decide +kernel) w_1116 p56M.ob rfl ?_
              refine sw_bipush (pc' := 86) (v := 7) rfl dX5_pair_84 (by decide +kernel) ?_
              refine sw_aald (j := 7) (pc' := 87) rfl dX5_pair_86 hGp56 (by decide +kernel) (by decide +kernel) rfl (by omega) (by decide +kernel) (eGp56 7 (by omega)) ?_
              refine sw_iload_n (pc' := 88) rfl dX5_pair_87 rfl ?_
              refine sw_iload_n (pc' := 89) rfl dX5_pair_88 rfl ?_
              refine sw_iast (j := p) (pc' := 90) rfl dX5_pair_89 (p56M.row (k := 7) (by omega)) (by show 100 ≤ _; omega) rfl (by have := hI.1 6 (by decide +kernel); omega) (by decide +kernel) ?_
              refine sw_nm (fun g1 eg1 => ?_)
              have zg1 := (congrFun eg1 (137 + 7)).trans (up_s (h := p56) (i := (137 + 7)))
              refine sw_iload (pc' := 92) rfl dX5_pair_90 rfl ?_
              refine sw_ret (v := some _) ⟨dX5_pair_92, _, rfl, rfl⟩ ?_
              rw [opPair, if_neg qx, if_neg qy, e1]
              exact pm_k (p56M.rwU (by decide +kernel) zg1 (fun i h1 => (congrFun eg1 i).trans ((up_n h1).trans (rfl)))) (p56A.shU (up_at (p56A.1 7 (by decide +kernel)))) (p56F.tr (FrM.of1 (fun i q => (congrFun eg1 i).trans ((up_n (by omega)).trans (rfl)))) (Nat.le_refl _)) (Nat.le_refl _)
          · exact absurd c59 (by decide +kernel)
        · exact absurd c36 (nI_ne1 (by have := hI.1 6 (by decide +kernel); omega))
      · exact absurd c26 (by decide +kernel)
theorem q_told {h : AH} {d bc bs n : Nat} {ρ : Nat → Nat → Int32} {τ : Nat → Int32} {σ : CS} {th : Int32} (hM : MM h ρ τ σ th) {k X : Nat} (hk : k < 6) (ov : wO σ k < 11) (hX : X ≤ 3) (hn : 158 ≤ n) (hd : 2 ≤ d) (h1 : 1 ≤ bc) (h2 : 12 ≤ bs) : SM SR0 MX5_told d bc bs [.ref 135, .int (nI k), .int (nI X)] h n (TP h n (owV σ k (nI X))) := by
  refine sm_of pn_OverwalksModel rfl (Nat.le_of_ble_eq_true rfl) ?_
  rcases hm : (σ.2.2.2.2.1 k).1 with _ | _
  · refine sw_aload_n (pc' := 1) rfl dX5_told_0 rfl ?_
    refine sw_getf (ci := 6) (k := 6) (pc' := 4) rfl dX5_told_1 (by decide +kernel) w_1119 hM.ob rfl ?_
    refine sw_iload_n (pc' := 5) rfl dX5_told_4 rfl ?_
    refine sw_iald (j := k) (pc' := 6) rfl dX5_told_5 hM.sh rfl (by omega) (by decide +kernel) ?_
    rw [shF_n (k := k) (by omega) hm]
    refine sw_iconst (pc' := 7) (v := (-1)) rfl dX5_told_6 (by decide +kernel) ?_
    refine sw_icmp_ne (pc' := 10) (tgt := 12) rfl dX5_told_7 (by decide +kernel) (fun c7 => ?_) (fun c7 => ?_)
    · exact absurd c7 (by decide +kernel)
    · refine sw_iconst (pc' := 11) (v := (-1)) rfl dX5_told_10 (by decide +kernel) ?_
      refine sw_ret (v := some _) ⟨dX5_told_11, _, rfl, rfl⟩ ?_
      rw [owV_0 hm]
      exact ⟨rfl, Nat.le_refl _, fun _ _ => rfl⟩
  · refine sw_aload_n (pc' := 1) rfl dX5_told_0 rfl ?_
    refine sw_getf (ci := 6) (k := 6) (pc' := 4) rfl dX5_told_1 (by decide +kernel) w_1119 hM.ob rfl ?_
    refine sw_iload_n (pc' := 5) rfl dX5_told_4 rfl ?_
    refine sw_iald (j := k) (pc' := 6) rfl dX5_told_5 hM.sh rfl (by omega) (by decide +kernel) ?_
    rw [shF_m (k := k) (by omega) hm]
    refine sw_iconst (pc' := 7) (v := (-1)) rfl dX5_told_6 (by decide +kernel) ?_
    refine sw_icmp_ne (pc' := 10) (tgt := 12) rfl dX5_told_7 (by decide +kernel) (fun c7 => ?_) (fun c7 => ?_)
    · refine sw_iconst (pc' := 13) (v := 4) rfl dX5_told_12 (by decide +kernel) ?_
      refine sw_newa (t := 0) (len := 4) (pc' := 15) rfl dX5_told_13 (by decide +kernel) w_101 rfl (by omega) (by omega) (by omega) ?_
      refine sw_nm (fun g1 eg1 => ?_)
      have zg1 := (congrFun eg1 n).trans (up_s (h := h) (i := n))
      refine sw_dup (pc' := 16) rfl dX5_told_15 rfl ?_
      refine sw_iconst (pc' := 17) (v := 0) rfl dX5_told_16 (by decide +kernel) ?_
      refine sw_aload_n (pc' := 18) rfl dX5_told_17 rfl ?_
      refine sw_getf (ci := 6) (k := 6) (pc' := 21) rfl dX5_told_18 (by decide +kernel) w_1119 (((congrFun eg1 135).trans (up_n (by omega))).trans hM.ob) rfl ?_
      refine sw_iload_n (pc' := 22) rfl dX5_told_21 rfl ?_
      refine sw_iald (j := k) (pc' := 23) rfl dX5_told_22 (((congrFun eg1 150).trans (up_n (by omega))).trans hM.sh) rfl (by omega) (by decide +kernel) ?_
      rw [shF_m (k := k) (by omega) hm]
      refine sw_iast (j := 0) (pc' := 24) rfl dX5_told_23 zg1 (by show 100 ≤ _; omega) rfl (by omega) (by omega) ?_
      refine sw_nm (fun g2 eg2 => ?_)
      have zg2 := (congrFun eg2 n).trans (up_s (h := g1) (i := n))
      refine sw_dup (pc' := 25) rfl dX5_told_24 rfl ?_
      refine sw_iconst (pc' := 26) (v := 1) rfl dX5_told_25 (by decide +kernel) ?_
      refine sw_aload_n (pc' := 27) rfl dX5_told_26 rfl ?_
      refine sw_getf (ci := 6) (k := 7) (pc' := 30) rfl dX5_told_27 (by decide +kernel) w_1120 (((congrFun eg2 135).trans (up_n (by omega))).trans (((congrFun eg1 135).trans (up_n (by omega))).trans hM.ob)) rfl ?_
      refine sw_iload_n (pc' := 31) rfl dX5_told_30 rfl ?_
      refine sw_iald (j := k) (pc' := 32) rfl dX5_told_31 (((congrFun eg2 151).trans (up_n (by omega))).trans (((congrFun eg1 151).trans (up_n (by omega))).trans hM.hw)) rfl (by omega) (by decide +kernel) ?_
      refine sw_iast (j := 1) (pc' := 33) rfl dX5_told_32 zg2 (by show 100 ≤ _; omega) rfl (by omega) (by omega) ?_
      refine sw_nm (fun g3 eg3 => ?_)
      have zg3 := (congrFun eg3 n).trans (up_s (h := g2) (i := n))
      refine sw_dup (pc' := 34) rfl dX5_told_33 rfl ?_
      refine sw_iconst (pc' := 35) (v := 2) rfl dX5_told_34 (by decide +kernel) ?_
      refine sw_aload_n (pc' := 36) rfl dX5_told_35 rfl ?_
      refine sw_getf (ci := 6) (k := 8) (pc' := 39) rfl dX5_told_36 (by decide +kernel) w_1121 (((congrFun eg3 135).trans (up_n (by omega))).trans (((congrFun eg2 135).trans (up_n (by omega))).trans (((congrFun eg1 135).trans (up_n (by omega))).trans hM.ob))) rfl ?_
      refine sw_iload_n (pc' := 40) rfl dX5_told_39 rfl ?_
      refine sw_iald (j := k) (pc' := 41) rfl dX5_told_40 (((congrFun eg3 152).trans (up_n (by omega))).trans (((congrFun eg2 152).trans (up_n (by omega))).trans (((congrFun eg1 152).trans (up_n (by omega))).trans hM.gi))) rfl (by omega) (by decide +kernel) ?_
      refine sw_iast (j := 2) (pc' := 42) rfl dX5_told_41 zg3 (by show 100 ≤ _; omega) rfl (by omega) (by omega) ?_
      refine sw_nm (fun g4 eg4 => ?_)
      have zg4 := (congrFun eg4 n).trans (up_s (h := g3) (i := n))
      refine sw_dup (pc' := 43) rfl dX5_told_42 rfl ?_
      refine sw_iconst (pc' := 44) (v := 3) rfl dX5_told_43 (by decide +kernel) ?_
      refine sw_aload_n (pc' := 45) rfl dX5_told_44 rfl ?_
      refine sw_iload_n (pc' := 46) rfl dX5_told_45 rfl ?_
      have gM : MM g4 ρ τ σ th := hM.fr (fun i h1 h2 => (congrFun eg4 i).trans ((up_n (by omega)).trans ((congrFun eg3 i).trans ((up_n (by omega)).trans ((congrFun eg2 i).trans ((up_n (by omega)).trans ((congrFun eg1 i).trans ((up_n (by omega)).trans (rfl)))))))))
      refine sw_V (M' := MX5_isStale) (d' := d - 1) (bc' := 0) (bs' := 0) (ci := 6) (as := [_]) dX5_told_46 w_1317 ok_X5_isStale (q_isStale gM hk hm ov) gM.ob rfl (by omega) (Nat.le_of_ble_eq_true rfl) (Nat.zero_le _) (Nat.zero_le _) (fun E h' n' _ z => det_x z) (det_k ?_)
      refine sw_S (M' := MX5_one) (d' := d - 1) (bc' := 0) (bs' := 0) (as := [_]) dX5_told_49 w_1196 ok_X5_one (q_one (q := wSt σ k)) (by omega) (Nat.le_of_ble_eq_true rfl) (Nat.zero_le _) (Nat.zero_le _) (fun E h' n' _ z => det_x z) (det_k ?_)
      refine sw_iast (j := 3) (pc' := 53) rfl dX5_told_52 zg4 (by show 100 ≤ _; omega) rfl (by omega) (by omega) ?_
      refine sw_nm (fun g5 eg5 => ?_)
      have zg5 := (congrFun eg5 n).trans (up_s (h := g4) (i := n))
      refine sw_astore_n (pc' := 54) (lv' := [(3, _), (0, _), (1, _), (2, _)]) rfl dX5_told_53 (by decide +kernel) rfl ?_
      refine sw_aload_n (pc' := 55) rfl dX5_told_54 rfl ?_
      refine sw_iload_n (pc' := 56) rfl dX5_told_55 rfl ?_
      refine sw_iald (j := X) (pc' := 57) rfl dX5_told_56 zg5 rfl (by omega) (by omega) ?_
      refine sw_ret (v := some _) ⟨dX5_told_57, _, rfl, rfl⟩ ?_
      exact ⟨by rw [owV_1 hm hX], Nat.le_succ _, fun i q => (congrFun eg5 i).trans ((up_n (by omega)).trans ((congrFun eg4 i).trans ((up_n (by omega)).trans ((congrFun eg3 i).trans ((up_n (by omega)).trans ((congrFun eg2 i).trans ((up_n (by omega)).trans ((congrFun eg1 i).trans ((up_n (by omega)).trans (rfl))))))))))⟩
    · exact absurd c7 (nI_ne1 (by omega))
theorem q_ofWalk {h : AH} {d bc bs n : Nat} {σ : CS} {th : Int32} {a x : Int32} (hR : RMo h σ th) (hI : Iv σ) (hn : 159 ≤ n) (hd : 8 ≤ d) (h1 : 1 ≤ bc) (h2 : 12 ≤ bs)  : SM SR0 MX5_ofWalk d bc bs [.ref 135, .int a, .int x] h n (PM h n (tc sI sA) (opOfWalk σ a x)) := by
  obtain ⟨ρ, τ, hM, hA⟩ := hR
  obtain ⟨G0, hG0, eG0⟩ := hM.out
  refine sm_of pn_OverwalksModel rfl (Nat.le_of_ble_eq_true rfl) ?_
  rcases idxN 6 (by decide +kernel) a with qk1 | ⟨k, hk, rfl⟩
  · refine sw_aload_n (pc' := 1) rfl dX5_ofWalk_0 rfl ?_
    refine sw_iload_n (pc' := 2) rfl dX5_ofWalk_1 rfl ?_
    refine sw_S (M' := MX5_isNoWalk) (d' := d - 1) (bc' := 0) (bs' := 0) (as := [_]) dX5_ofWalk_2 w_1306 ok_X5_isNoWalk (q_isNoWalk (by omega)) (by omega) (Nat.le_of_ble_eq_true rfl) (Nat.zero_le _) (Nat.zero_le _) (fun E h' n' _ z => det_x z) (det_k ?_)
    rw [show inB a 0 5 = false from no_x (N := 5) (by decide +kernel) qk1]
    show SW _ _ _ _ _ _ _ (.int 1 :: _) _ _ _
    refine sw_iload_n (pc' := 6) rfl dX5_ofWalk_5 rfl ?_
    refine sw_iconst (pc' := 7) (v := 0) rfl dX5_ofWalk_6 (by decide +kernel) ?_
    refine sw_iconst (pc' := 8) (v := 3) rfl dX5_ofWalk_7 (by decide +kernel) ?_
    refine sw_S (M' := MX5_isIn) (d' := d - 1) (bc' := 0) (bs' := 0) (as := [_, _, _]) dX5_ofWalk_8 w_1168 ok_X5_isIn (q_isIn) (by omega) (Nat.le_of_ble_eq_true rfl) (Nat.zero_le _) (Nat.zero_le _) (fun E h' n' _ z => det_x z) (det_k ?_)
    refine sw_if_ne (pc' := 14) (tgt := 18) rfl dX5_ofWalk_11 (by decide +kernel) (fun c11 => ?_) (fun c11 => ?_)
    · refine sw_iconst (pc' := 19) (v := 0) rfl dX5_ofWalk_18 (by decide +kernel) ?_
      refine sw_V (M' := MX5_isStopped_) (d' := d - 1) (bc' := 0) (bs' := 0) (ci := 6) (as := [_, _]) dX5_ofWalk_19 w_1215 ok_X5_isStopped_ (q_isStopped2 (a := true) (b := false) hM hA (by omega)) hM.ob rfl (by omega) (Nat.le_of_ble_eq_true rfl) (Nat.zero_le _) (Nat.zero_le _) (fun E h' n' _ z => rp_x z) (rp_k (fun p19 p19ρ p19τ p19M p19A p19F => ?_))
      obtain ⟨Gp19, hGp19, eGp19⟩ := p19M.out
      show SW _ _ _ _ _ _ _ (.int 1 :: _) _ _ _
      refine sw_if_eq (pc' := 25) (tgt := 29) rfl dX5_ofWalk_22 (by decide +kernel) (fun c22 => ?_) (fun c22 => ?_)
      · exact absurd c22 (by decide +kernel)
      · refine sw_iconst (pc' := 26) (v := 0) rfl dX5_ofWalk_25 (by decide +kernel) ?_
        refine sw_goto (tgt := 35) dX5_ofWalk_26 (by decide +kernel) ?_
        refine sw_ret (v := some _) ⟨dX5_ofWalk_35, _, rfl, rfl⟩ ?_
        rw [opOfWalk, onWk_x qk1]
        exact pm_x tc_1 p19M p19A p19F (Nat.le_refl _)
    · refine sw_iconst (pc' := 15) (v := 1) rfl dX5_ofWalk_14 (by decide +kernel) ?_
      refine sw_goto (tgt := 19) dX5_ofWalk_15 (by decide +kernel) ?_
      refine sw_V (M' := MX5_isStopped_) (d' := d - 1) (bc' := 0) (bs' := 0) (ci := 6) (as := [_, _]) dX5_ofWalk_19 w_1215 ok_X5_isStopped_ (q_isStopped2 (a := true) (b := true) hM hA (by omega)) hM.ob rfl (by omega) (Nat.le_of_ble_eq_true rfl) (Nat.zero_le _) (Nat.zero_le _) (fun E h' n' _ z => rp_x z) (rp_k (fun p19 p19ρ p19τ p19M p19A p19F => ?_))
      obtain ⟨Gp19, hGp19, eGp19⟩ := p19M.out
      show SW _ _ _ _ _ _ _ (.int 1 :: _) _ _ _
      refine sw_if_eq (pc' := 25) (tgt := 29) rfl dX5_ofWalk_22 (by decide +kernel) (fun c22 => ?_) (fun c22 => ?_)
      · exact absurd c22 (by decide +kernel)
      · refine sw_iconst (pc' := 26) (v := 0) rfl dX5_ofWalk_25 (by decide +kernel) ?_
        refine sw_goto (tgt := 35) dX5_ofWalk_26 (by decide +kernel) ?_
        refine sw_ret (v := some _) ⟨dX5_ofWalk_35, _, rfl, rfl⟩ ?_
        rw [opOfWalk, onWk_x qk1]
        exact pm_x tc_1 p19M p19A p19F (Nat.le_refl _)
  have ovk := hI.2.2.2.2.2.2.1 k hk
  have hcwk := hI.1 _ ovk
  rcases idxR 3 (by decide +kernel) x with qX | ⟨X, hX, rfl⟩
  · refine sw_aload_n (pc' := 1) rfl dX5_ofWalk_0 rfl ?_
    refine sw_iload_n (pc' := 2) rfl dX5_ofWalk_1 rfl ?_
    refine sw_S (M' := MX5_isNoWalk) (d' := d - 1) (bc' := 0) (bs' := 0) (as := [_]) dX5_ofWalk_2 w_1306 ok_X5_isNoWalk (q_isNoWalk (by omega)) (by omega) (Nat.le_of_ble_eq_true rfl) (Nat.zero_le _) (Nat.zero_le _) (fun E h' n' _ z => det_x z) (det_k ?_)
    rw [show inB (nI k) 0 5 = true from inB_k (N := 5) (by omega) (by decide +kernel)]
    show SW _ _ _ _ _ _ _ (.int 0 :: _) _ _ _
    refine sw_iload_n (pc' := 6) rfl dX5_ofWalk_5 rfl ?_
    refine sw_iconst (pc' := 7) (v := 0) rfl dX5_ofWalk_6 (by decide +kernel) ?_
    refine sw_iconst (pc' := 8) (v := 3) rfl dX5_ofWalk_7 (by decide +kernel) ?_
    refine sw_S (M' := MX5_isIn) (d' := d - 1) (bc' := 0) (bs' := 0) (as := [_, _, _]) dX5_ofWalk_8 w_1168 ok_X5_isIn (q_isIn) (by omega) (Nat.le_of_ble_eq_true rfl) (Nat.zero_le _) (Nat.zero_le _) (fun E h' n' _ z => det_x z) (det_k ?_)
    rw [show inB x 0 3 = false from inB_x qX]
    show SW _ _ _ _ _ _ _ (.int 0 :: _) _ _ _
    refine sw_if_ne (pc' := 14) (tgt := 18) rfl dX5_ofWalk_11 (by decide +kernel) (fun c11 => ?_) (fun c11 => ?_)
    · exact absurd c11 (by decide +kernel)
    · refine sw_iconst (pc' := 15) (v := 1) rfl dX5_ofWalk_14 (by decide +kernel) ?_
      refine sw_goto (tgt := 19) dX5_ofWalk_15 (by decide +kernel) ?_
      refine sw_V (M' := MX5_isStopped_) (d' := d - 1) (bc' := 0) (bs' := 0) (ci := 6) (as := [_, _]) dX5_ofWalk_19 w_1215 ok_X5_isStopped_ (q_isStopped2 (a := false) (b := true) hM hA (by omega)) hM.ob rfl (by omega) (Nat.le_of_ble_eq_true rfl) (Nat.zero_le _) (Nat.zero_le _) (fun E h' n' _ z => rp_x z) (rp_k (fun p19 p19ρ p19τ p19M p19A p19F => ?_))
      obtain ⟨Gp19, hGp19, eGp19⟩ := p19M.out
      show SW _ _ _ _ _ _ _ (.int 1 :: _) _ _ _
      refine sw_if_eq (pc' := 25) (tgt := 29) rfl dX5_ofWalk_22 (by decide +kernel) (fun c22 => ?_) (fun c22 => ?_)
      · exact absurd c22 (by decide +kernel)
      · refine sw_iconst (pc' := 26) (v := 0) rfl dX5_ofWalk_25 (by decide +kernel) ?_
        refine sw_goto (tgt := 35) dX5_ofWalk_26 (by decide +kernel) ?_
        refine sw_ret (v := some _) ⟨dX5_ofWalk_35, _, rfl, rfl⟩ ?_
        rw [opOfWalk, onWk_k hk, if_pos (show x < 0 ∨ 3 < x from qX)]
        exact pm_x (tc_2 sAI) p19M p19A p19F (Nat.le_refl _)
  refine sw_aload_n (pc' := 1) rfl dX5_ofWalk_0 rfl ?_
  refine sw_iload_n (pc' := 2) rfl dX5_ofWalk_1 rfl ?_
  refine sw_S (M' := MX5_isNoWalk) (d' := d - 1) (bc' := 0) (bs' := 0) (as := [_]) dX5_ofWalk_2 w_1306 ok_X5_isNoWalk (q_isNoWalk (by omega)) (by omega) (Nat.le_of_ble_eq_true rfl) (Nat.zero_le _) (Nat.zero_le _) (fun E h' n' _ z => det_x z) (det_k ?_)
  rw [show inB (nI k) 0 5 = true from inB_k (N := 5) (by omega) (by decide +kernel)]
  show SW _ _ _ _ _ _ _ (.int 0 :: _) _ _ _
  refine sw_iload_n (pc' := 6) rfl dX5_ofWalk_5 rfl ?_
  refine sw_iconst (pc' := 7) (v := 0) rfl dX5_ofWalk_6 (by decide +kernel) ?_
  refine sw_iconst (pc' := 8) (v := 3) rfl dX5_ofWalk_7 (by decide +kernel) ?_
  refine sw_S (M' := MX5_isIn) (d' := d - 1) (bc' := 0) (bs' := 0) (as := [_, _, _]) dX5_ofWalk_8 w_1168 ok_X5_isIn (q_isIn) (by omega) (Nat.le_of_ble_eq_true rfl) (Nat.zero_le _) (Nat.zero_le _) (fun E h' n' _ z => det_x z) (det_k ?_)
  rw [show inB (nI X) 0 3 = true from inB_k (N := 3) hX (by decide +kernel)]
  show SW _ _ _ _ _ _ _ (.int 1 :: _) _ _ _
  refine sw_if_ne (pc' := 14) (tgt := 18) rfl dX5_ofWalk_11 (by decide +kernel) (fun c11 => ?_) (fun c11 => ?_)
  · refine sw_iconst (pc' := 19) (v := 0) rfl dX5_ofWalk_18 (by decide +kernel) ?_
    refine sw_V (M' := MX5_isStopped_) (d' := d - 1) (bc' := 0) (bs' := 0) (ci := 6) (as := [_, _]) dX5_ofWalk_19 w_1215 ok_X5_isStopped_ (q_isStopped2 (a := false) (b := false) hM hA (by omega)) hM.ob rfl (by omega) (Nat.le_of_ble_eq_true rfl) (Nat.zero_le _) (Nat.zero_le _) (fun E h' n' _ z => rp_x z) (rp_k (fun p19 p19ρ p19τ p19M p19A p19F => ?_))
    obtain ⟨Gp19, hGp19, eGp19⟩ := p19M.out
    show SW _ _ _ _ _ _ _ (.int 0 :: _) _ _ _
    refine sw_if_eq (pc' := 25) (tgt := 29) rfl dX5_ofWalk_22 (by decide +kernel) (fun c22 => ?_) (fun c22 => ?_)
    · refine sw_aload_n (pc' := 30) rfl dX5_ofWalk_29 rfl ?_
      refine sw_iload_n (pc' := 31) rfl dX5_ofWalk_30 rfl ?_
      refine sw_iload_n (pc' := 32) rfl dX5_ofWalk_31 rfl ?_
      refine sw_V (M' := MX5_told) (d' := d - 1) (bc' := 1) (bs' := 12) (ci := 6) (as := [_, _]) dX5_ofWalk_32 w_1459 ok_X5_told (q_told p19M hk ovk hX (by omega) (by omega) (by omega) (by omega)) p19M.ob rfl (by omega) (Nat.le_of_ble_eq_true rfl) (by omega) (by omega) (fun E h' n' _ z => tp_x z) (tp_k (fun p32 p32n p32k p32F => ?_))
      have p32M := p19M.fr (fun i h1 h2 => p32F i (by omega))
      refine sw_ret (v := some _) ⟨dX5_ofWalk_35, _, rfl, rfl⟩ ?_
      rw [opOfWalk, onWk_k hk, if_neg (show ¬ (nI X < 0 ∨ 3 < nI X) from nin (N := 3) (by decide +kernel) hX), opOfWalk_k hX]
      exact pm_k p32M p19A (p19F.tr (fun i _ q => p32F i q) (Nat.le_refl _)) p32k
    · exact absurd c22 (by decide +kernel)
  · exact absurd c11 (by decide +kernel)
theorem ql_house1 {h : AH} {d bc bs n X : Nat} {ρ : Nat → Nat → Int32} {τ : Nat → Int32} {σ : CS} {th : Int32} {Post : ARes → AH → Nat → Prop} (hM : MM h ρ τ σ th) (hA : AG ρ τ σ) (hI : Iv σ) (hd : 2 ≤ d) (m : Nat) : ∀ (j : Nat) (v w : Int32), j + m = 11 → SW SR0 MX5_houseTold d bc bs 47 [(6, .int (nI 11)), (3, .int (ctN (fun j => nI (coN (σ.1 j) 100 0 (σ.2.1 j))) j m w)), (2, .int (ctN (fun j => nI (σ.2.1 j)) j m v)), (5, .int 0), (4, .int 0), (0, .ref 135), (1, .int (nI X))] [] h n Post → SW SR0 MX5_houseTold d bc bs 13 [(6, .int (nI j)), (3, .int w), (2, .int v), (5, .int 0), (4, .int 0), (0, .ref 135), (1, .int (nI X))] [] h n Post := by
  obtain ⟨G0, hG0, eG0⟩ := hM.out
  induction m with
  | zero =>
    intro j v w hj fq
    have hj11 : j = 11 := by omega
    subst hj11
    refine sw_iload (pc' := 15) rfl dX5_houseTold_13 rfl ?_
    refine sw_bipush (pc' := 17) (v := 11) rfl dX5_houseTold_15 (by decide +kernel) ?_
    refine sw_icmp_ge (pc' := 20) (tgt := 47) rfl dX5_houseTold_17 (by decide +kernel) (fun c17 => ?_) (fun c17 => ?_)
    · exact fq
    · exact absurd (Int32.le_refl (nI 11)) c17
  | succ m ih =>
    intro j v w hj fq
    refine sw_iload (pc' := 15) rfl dX5_houseTold_13 rfl ?_
    refine sw_bipush (pc' := 17) (v := 11) rfl dX5_houseTold_15 (by decide +kernel) ?_
    refine sw_icmp_ge (pc' := 20) (tgt := 47) rfl dX5_houseTold_17 (by decide +kernel) (fun c17 => ?_) (fun c17 => ?_)
    · exact absurd c17 (nI_ge (b := 11) (by omega) (by decide +kernel))
    · refine sw_iload_n (pc' := 21) rfl dX5_houseTold_20 rfl ?_
      refine sw_aload_n (pc' := 22) rfl dX5_houseTold_21 rfl ?_
      refine sw_getf (ci := 6) (k := 4) (pc' := 25) rfl dX5_houseTold_22 (by decide +kernel) w_1117 hM.ob rfl ?_
      refine sw_iload (pc' := 27) rfl dX5_houseTold_25 rfl ?_
      refine sw_iald (j := j) (pc' := 28) rfl dX5_houseTold_27 hM.sz rfl (by omega) (by decide +kernel) ?_
      refine sw_iadd (pc' := 29) rfl dX5_houseTold_28 ?_
      refine sw_istore_n (pc' := 30) (lv' := [(2, _), (6, _), (3, _), (5, _), (4, _), (0, _), (1, _)]) rfl dX5_houseTold_29 (by decide +kernel) rfl ?_
      refine sw_iload_n (pc' := 31) rfl dX5_houseTold_30 rfl ?_
      refine sw_aload_n (pc' := 32) rfl dX5_houseTold_31 rfl ?_
      refine sw_iload (pc' := 34) rfl dX5_houseTold_32 rfl ?_
      refine sw_bipush (pc' := 36) (v := 100) rfl dX5_houseTold_34 (by decide +kernel) ?_
      refine sw_V (M' := MX5_count) (d' := d - 1) (bc' := 0) (bs' := 0) (ci := 6) (as := [_, _]) dX5_houseTold_36 w_1192 ok_X5_count (q_count hM hA (k := j) (by omega) (hI.1 j (by omega)) (by omega)) hM.ob rfl (by omega) (Nat.le_of_ble_eq_true rfl) (Nat.zero_le _) (Nat.zero_le _) (fun E h' n' _ z => det_x z) (det_k ?_)
      refine sw_iadd (pc' := 40) rfl dX5_houseTold_39 ?_
      refine sw_istore_n (pc' := 41) (lv' := [(3, _), (2, _), (6, _), (5, _), (4, _), (0, _), (1, _)]) rfl dX5_houseTold_40 (by decide +kernel) rfl ?_
      refine sw_iinc (pc' := 44) (lv' := [(6, _), (3, _), (2, _), (5, _), (4, _), (0, _), (1, _)]) (v := nI (j + 1)) rfl dX5_houseTold_41 rfl (nI_1 j) (by decide +kernel) rfl ?_
      refine sw_goto (tgt := 13) dX5_houseTold_44 (by decide +kernel) ?_
      exact ih (j + 1) _ _ (by omega) fq
theorem ql_house2 {h : AH} {d bc bs n X : Nat} {ρ : Nat → Nat → Int32} {τ : Nat → Int32} {σ : CS} {th : Int32} {a b : Int32} {Post : ARes → AH → Nat → Prop} (hM : MM h ρ τ σ th) (hA : AG ρ τ σ) (hI : Iv σ) (hd : 2 ≤ d) (m : Nat) : ∀ (j : Nat) (v w : Int32), j + m = 6 → SW SR0 MX5_houseTold d bc bs 120 [(6, .int (nI 6)), (5, .int (ctN (fun j => bI ((σ.2.2.2.2.1 j).1 && wSt σ j)) j m w)), (4, .int (ctN (fun j => bI (σ.2.2.2.2.1 j).1) j m v)), (3, .int b), (2, .int a), (0, .ref 135), (1, .int (nI X))] [] h n Post → SW SR0 MX5_houseTold d bc bs 50 [(6, .int (nI j)), (5, .int w), (4, .int v), (3, .int b), (2, .int a), (0, .ref 135), (1, .int (nI X))] [] h n Post := by
  obtain ⟨G0, hG0, eG0⟩ := hM.out
  induction m with
  | zero =>
    intro j v w hj fq
    have hj6 : j = 6 := by omega
    subst hj6
    refine sw_iload (pc' := 52) rfl dX5_houseTold_50 rfl ?_
    refine sw_bipush (pc' := 54) (v := 6) rfl dX5_houseTold_52 (by decide +kernel) ?_
    refine sw_icmp_ge (pc' := 57) (tgt := 120) rfl dX5_houseTold_54 (by decide +kernel) (fun c54 => ?_) (fun c54 => ?_)
    · exact fq
    · exact absurd (Int32.le_refl (nI 6)) c54
  | succ m ih =>
    intro j v w hj fq
    rw [ctN, ctN] at fq
    rcases hm : (σ.2.2.2.2.1 j).1 with _ | _
    · refine sw_iload (pc' := 52) rfl dX5_houseTold_50 rfl ?_
      refine sw_bipush (pc' := 54) (v := 6) rfl dX5_houseTold_52 (by decide +kernel) ?_
      refine sw_icmp_ge (pc' := 57) (tgt := 120) rfl dX5_houseTold_54 (by decide +kernel) (fun c54 => ?_) (fun c54 => ?_)
      · exact absurd c54 (nI_ge (b := 6) (by omega) (by decide +kernel))
      · refine sw_iload (pc' := 59) rfl dX5_houseTold_57 rfl ?_
        refine sw_aload_n (pc' := 60) rfl dX5_houseTold_59 rfl ?_
        refine sw_getf (ci := 6) (k := 6) (pc' := 63) rfl dX5_houseTold_60 (by decide +kernel) w_1119 hM.ob rfl ?_
        refine sw_iload (pc' := 65) rfl dX5_houseTold_63 rfl ?_
        refine sw_iald (j := j) (pc' := 66) rfl dX5_houseTold_65 hM.sh rfl (by omega) (by decide +kernel) ?_
        rw [shF_n (k := j) (by omega) hm]
        refine sw_iconst (pc' := 67) (v := (-1)) rfl dX5_houseTold_66 (by decide +kernel) ?_
        refine sw_icmp_eq (pc' := 70) (tgt := 74) rfl dX5_houseTold_67 (by decide +kernel) (fun c67 => ?_) (fun c67 => ?_)
        · refine sw_iconst (pc' := 75) (v := 0) rfl dX5_houseTold_74 (by decide +kernel) ?_
          refine sw_S (M' := MX5_one) (d' := d - 1) (bc' := 0) (bs' := 0) (as := [_]) dX5_houseTold_75 w_1196 ok_X5_one (q_one (q := false)) (by omega) (Nat.le_of_ble_eq_true rfl) (Nat.zero_le _) (Nat.zero_le _) (fun E h' n' _ z => det_x z) (det_k ?_)
          refine sw_iadd (pc' := 79) rfl dX5_houseTold_78 ?_
          refine sw_istore (pc' := 81) (lv' := [(4, _), (6, _), (5, _), (3, _), (2, _), (0, _), (1, _)]) rfl dX5_houseTold_79 (by decide +kernel) rfl ?_
          refine sw_iload (pc' := 83) rfl dX5_houseTold_81 rfl ?_
          refine sw_aload_n (pc' := 84) rfl dX5_houseTold_83 rfl ?_
          refine sw_getf (ci := 6) (k := 6) (pc' := 87) rfl dX5_houseTold_84 (by decide +kernel) w_1119 hM.ob rfl ?_
          refine sw_iload (pc' := 89) rfl dX5_houseTold_87 rfl ?_
          refine sw_iald (j := j) (pc' := 90) rfl dX5_houseTold_89 hM.sh rfl (by omega) (by decide +kernel) ?_
          rw [shF_n (k := j) (by omega) hm]
          refine sw_iconst (pc' := 91) (v := (-1)) rfl dX5_houseTold_90 (by decide +kernel) ?_
          refine sw_icmp_eq (pc' := 94) (tgt := 107) rfl dX5_houseTold_91 (by decide +kernel) (fun c91 => ?_) (fun c91 => ?_)
          · refine sw_iconst (pc' := 108) (v := 0) rfl dX5_houseTold_107 (by decide +kernel) ?_
            refine sw_S (M' := MX5_one) (d' := d - 1) (bc' := 0) (bs' := 0) (as := [_]) dX5_houseTold_108 w_1196 ok_X5_one (q_one (q := false)) (by omega) (Nat.le_of_ble_eq_true rfl) (Nat.zero_le _) (Nat.zero_le _) (fun E h' n' _ z => det_x z) (det_k ?_)
            refine sw_iadd (pc' := 112) rfl dX5_houseTold_111 ?_
            refine sw_istore (pc' := 114) (lv' := [(5, _), (4, _), (6, _), (3, _), (2, _), (0, _), (1, _)]) rfl dX5_houseTold_112 (by decide +kernel) rfl ?_
            refine sw_iinc (pc' := 117) (lv' := [(6, _), (5, _), (4, _), (3, _), (2, _), (0, _), (1, _)]) (v := nI (j + 1)) rfl dX5_houseTold_114 rfl (nI_1 j) (by decide +kernel) rfl ?_
            refine sw_goto (tgt := 50) dX5_houseTold_117 (by decide +kernel) ?_
            rw [hm] at fq
            exact ih (j + 1) _ _ (by omega) fq
          · exact absurd c91 (by decide +kernel)
        · exact absurd c67 (by decide +kernel)
    · refine sw_iload (pc' := 52) rfl dX5_houseTold_50 rfl ?_
      refine sw_bipush (pc' := 54) (v := 6) rfl dX5_houseTold_52 (by decide +kernel) ?_
      refine sw_icmp_ge (pc' := 57) (tgt := 120) rfl dX5_houseTold_54 (by decide +kernel) (fun c54 => ?_) (fun c54 => ?_)
      · exact absurd c54 (nI_ge (b := 6) (by omega) (by decide +kernel))
      · refine sw_iload (pc' := 59) rfl dX5_houseTold_57 rfl ?_
        refine sw_aload_n (pc' := 60) rfl dX5_houseTold_59 rfl ?_
        refine sw_getf (ci := 6) (k := 6) (pc' := 63) rfl dX5_houseTold_60 (by decide +kernel) w_1119 hM.ob rfl ?_
        refine sw_iload (pc' := 65) rfl dX5_houseTold_63 rfl ?_
        refine sw_iald (j := j) (pc' := 66) rfl dX5_houseTold_65 hM.sh rfl (by omega) (by decide +kernel) ?_
        rw [shF_m (k := j) (by omega) hm]
        refine sw_iconst (pc' := 67) (v := (-1)) rfl dX5_houseTold_66 (by decide +kernel) ?_
        refine sw_icmp_eq (pc' := 70) (tgt := 74) rfl dX5_houseTold_67 (by decide +kernel) (fun c67 => ?_) (fun c67 => ?_)
        · exact absurd c67 (nI_ne1 (by have := hI.2.2.2.2.2.2.1 j (by omega); omega))
        · refine sw_iconst (pc' := 71) (v := 1) rfl dX5_houseTold_70 (by decide +kernel) ?_
          refine sw_goto (tgt := 75) dX5_houseTold_71 (by decide +kernel) ?_
          refine sw_S (M' := MX5_one) (d' := d - 1) (bc' := 0) (bs' := 0) (as := [_]) dX5_houseTold_75 w_1196 ok_X5_one (q_one (q := true)) (by omega) (Nat.le_of_ble_eq_true rfl) (Nat.zero_le _) (Nat.zero_le _) (fun E h' n' _ z => det_x z) (det_k ?_)
          refine sw_iadd (pc' := 79) rfl dX5_houseTold_78 ?_
          refine sw_istore (pc' := 81) (lv' := [(4, _), (6, _), (5, _), (3, _), (2, _), (0, _), (1, _)]) rfl dX5_houseTold_79 (by decide +kernel) rfl ?_
          refine sw_iload (pc' := 83) rfl dX5_houseTold_81 rfl ?_
          refine sw_aload_n (pc' := 84) rfl dX5_houseTold_83 rfl ?_
          refine sw_getf (ci := 6) (k := 6) (pc' := 87) rfl dX5_houseTold_84 (by decide +kernel) w_1119 hM.ob rfl ?_
          refine sw_iload (pc' := 89) rfl dX5_houseTold_87 rfl ?_
          refine sw_iald (j := j) (pc' := 90) rfl dX5_houseTold_89 hM.sh rfl (by omega) (by decide +kernel) ?_
          rw [shF_m (k := j) (by omega) hm]
          refine sw_iconst (pc' := 91) (v := (-1)) rfl dX5_houseTold_90 (by decide +kernel) ?_
          refine sw_icmp_eq (pc' := 94) (tgt := 107) rfl dX5_houseTold_91 (by decide +kernel) (fun c91 => ?_) (fun c91 => ?_)
          · exact absurd c91 (nI_ne1 (by have := hI.2.2.2.2.2.2.1 j (by omega); omega))
          · refine sw_aload_n (pc' := 95) rfl dX5_houseTold_94 rfl ?_
            refine sw_iload (pc' := 97) rfl dX5_houseTold_95 rfl ?_
            refine sw_V (M' := MX5_isStale) (d' := d - 1) (bc' := 0) (bs' := 0) (ci := 6) (as := [_]) dX5_houseTold_97 w_1317 ok_X5_isStale (q_isStale hM (k := j) (by omega) hm (hI.2.2.2.2.2.2.1 j (by omega))) hM.ob rfl (by omega) (Nat.le_of_ble_eq_true rfl) (Nat.zero_le _) (Nat.zero_le _) (fun E h' n' _ z => det_x z) (det_k ?_)
            refine sw_if_eq (pc' := 103) (tgt := 107) rfl dX5_houseTold_100 (by decide +kernel) (fun c100 => ?_) (fun c100 => ?_)
            · refine sw_iconst (pc' := 108) (v := 0) rfl dX5_houseTold_107 (by decide +kernel) ?_
              refine sw_S (M' := MX5_one) (d' := d - 1) (bc' := 0) (bs' := 0) (as := [_]) dX5_houseTold_108 w_1196 ok_X5_one (q_one (q := false)) (by omega) (Nat.le_of_ble_eq_true rfl) (Nat.zero_le _) (Nat.zero_le _) (fun E h' n' _ z => det_x z) (det_k ?_)
              refine sw_iadd (pc' := 112) rfl dX5_houseTold_111 ?_
              refine sw_istore (pc' := 114) (lv' := [(5, _), (4, _), (6, _), (3, _), (2, _), (0, _), (1, _)]) rfl dX5_houseTold_112 (by decide +kernel) rfl ?_
              refine sw_iinc (pc' := 117) (lv' := [(6, _), (5, _), (4, _), (3, _), (2, _), (0, _), (1, _)]) (v := nI (j + 1)) rfl dX5_houseTold_114 rfl (nI_1 j) (by decide +kernel) rfl ?_
              refine sw_goto (tgt := 50) dX5_houseTold_117 (by decide +kernel) ?_
              rw [hm, Bool.true_and, bI_0 c100] at fq
              exact ih (j + 1) _ _ (by omega) fq
            · refine sw_iconst (pc' := 104) (v := 1) rfl dX5_houseTold_103 (by decide +kernel) ?_
              refine sw_goto (tgt := 108) dX5_houseTold_104 (by decide +kernel) ?_
              refine sw_S (M' := MX5_one) (d' := d - 1) (bc' := 0) (bs' := 0) (as := [_]) dX5_houseTold_108 w_1196 ok_X5_one (q_one (q := true)) (by omega) (Nat.le_of_ble_eq_true rfl) (Nat.zero_le _) (Nat.zero_le _) (fun E h' n' _ z => det_x z) (det_k ?_)
              refine sw_iadd (pc' := 112) rfl dX5_houseTold_111 ?_
              refine sw_istore (pc' := 114) (lv' := [(5, _), (4, _), (6, _), (3, _), (2, _), (0, _), (1, _)]) rfl dX5_houseTold_112 (by decide +kernel) rfl ?_
              refine sw_iinc (pc' := 117) (lv' := [(6, _), (5, _), (4, _), (3, _), (2, _), (0, _), (1, _)]) (v := nI (j + 1)) rfl dX5_houseTold_114 rfl (nI_1 j) (by decide +kernel) rfl ?_
              refine sw_goto (tgt := 50) dX5_houseTold_117 (by decide +kernel) ?_
              rw [hm, Bool.true_and, bI_1 c100] at fq
              exact ih (j + 1) _ _ (by omega) fq
theorem q_houseTold {h : AH} {d bc bs n : Nat} {ρ : Nat → Nat → Int32} {τ : Nat → Int32} {σ : CS} {th : Int32} {X : Nat} (hM : MM h ρ τ σ th) (hA : AG ρ τ σ) (hI : Iv σ) (hX : X ≤ 5) (hn : 158 ≤ n) (hd : 3 ≤ d) (h1 : 1 ≤ bc) (h2 : 12 ≤ bs) : SM SR0 MX5_houseTold d bc bs [.ref 135, .int (nI X)] h n (TP h n (hoV σ (nI X))) := by
  obtain ⟨G0, hG0, eG0⟩ := hM.out
  refine sm_of pn_OverwalksModel rfl (Nat.le_of_ble_eq_true rfl) ?_
  refine sw_iconst (pc' := 1) (v := 0) rfl dX5_houseTold_0 (by decide +kernel) ?_
  refine sw_istore_n (pc' := 2) (lv' := [(2, _), (0, _), (1, _)]) rfl dX5_houseTold_1 (by decide +kernel) rfl ?_
  refine sw_iconst (pc' := 3) (v := 0) rfl dX5_houseTold_2 (by decide +kernel) ?_
  refine sw_istore_n (pc' := 4) (lv' := [(3, _), (2, _), (0, _), (1, _)]) rfl dX5_houseTold_3 (by decide +kernel) rfl ?_
  refine sw_iconst (pc' := 5) (v := 0) rfl dX5_houseTold_4 (by decide +kernel) ?_
  refine sw_istore (pc' := 7) (lv' := [(4, _), (3, _), (2, _), (0, _), (1, _)]) rfl dX5_houseTold_5 (by decide +kernel) rfl ?_
  refine sw_iconst (pc' := 8) (v := 0) rfl dX5_houseTold_7 (by decide +kernel) ?_
  refine sw_istore (pc' := 10) (lv' := [(5, _), (4, _), (3, _), (2, _), (0, _), (1, _)]) rfl dX5_houseTold_8 (by decide +kernel) rfl ?_
  refine sw_iconst (pc' := 11) (v := 0) rfl dX5_houseTold_10 (by decide +kernel) ?_
  refine sw_istore (pc' := 13) (lv' := [(6, _), (5, _), (4, _), (3, _), (2, _), (0, _), (1, _)]) rfl dX5_houseTold_11 (by decide +kernel) rfl ?_
  refine SW.pick [0, 3, 4, 1, 2, 5, 6] rfl (ql_house1 (d := d) (X := X) hM hA hI (by omega) 11 0 0 0 rfl ?_)
  show SW _ _ _ _ _ _ [(6, .int (nI 11)), (3, .int (cnN σ)), (2, .int (cnT σ)), (5, .int 0), (4, .int 0), (0, .ref 135), (1, .int (nI X))] _ _ _ _
  refine sw_iconst (pc' := 48) (v := 0) rfl dX5_houseTold_47 (by decide +kernel) ?_
  refine sw_istore (pc' := 50) (lv' := [(6, _), (3, _), (2, _), (5, _), (4, _), (0, _), (1, _)]) rfl dX5_houseTold_48 (by decide +kernel) rfl ?_
  refine SW.pick [0, 3, 4, 1, 2, 5, 6] rfl (ql_house2 (d := d) (X := X) (a := cnT σ) (b := cnN σ) hM hA hI (by omega) 6 0 0 0 rfl ?_)
  show SW _ _ _ _ _ _ [(6, .int (nI 6)), (5, .int (cnS σ)), (4, .int (cnW σ)), (3, .int (cnN σ)), (2, .int (cnT σ)), (0, .ref 135), (1, .int (nI X))] _ _ _ _
  refine sw_bipush (pc' := 122) (v := 6) rfl dX5_houseTold_120 (by decide +kernel) ?_
  refine sw_newa (t := 0) (len := 6) (pc' := 124) rfl dX5_houseTold_122 (by decide +kernel) w_101 rfl (by omega) (by omega) (by omega) ?_
  refine sw_nm (fun g1 eg1 => ?_)
  have zg1 := (congrFun eg1 n).trans (up_s (h := h) (i := n))
  refine sw_dup (pc' := 125) rfl dX5_houseTold_124 rfl ?_
  refine sw_iconst (pc' := 126) (v := 0) rfl dX5_houseTold_125 (by decide +kernel) ?_
  refine sw_iload_n (pc' := 127) rfl dX5_houseTold_126 rfl ?_
  refine sw_iast (j := 0) (pc' := 128) rfl dX5_houseTold_127 zg1 (by show 100 ≤ _; omega) rfl (by omega) (by omega) ?_
  refine sw_nm (fun g2 eg2 => ?_)
  have zg2 := (congrFun eg2 n).trans (up_s (h := g1) (i := n))
  refine sw_dup (pc' := 129) rfl dX5_houseTold_128 rfl ?_
  refine sw_iconst (pc' := 130) (v := 1) rfl dX5_houseTold_129 (by decide +kernel) ?_
  refine sw_iload_n (pc' := 131) rfl dX5_houseTold_130 rfl ?_
  refine sw_iast (j := 1) (pc' := 132) rfl dX5_houseTold_131 zg2 (by show 100 ≤ _; omega) rfl (by omega) (by omega) ?_
  refine sw_nm (fun g3 eg3 => ?_)
  have zg3 := (congrFun eg3 n).trans (up_s (h := g2) (i := n))
  refine sw_dup (pc' := 133) rfl dX5_houseTold_132 rfl ?_
  refine sw_iconst (pc' := 134) (v := 2) rfl dX5_houseTold_133 (by decide +kernel) ?_
  refine sw_iload (pc' := 136) rfl dX5_houseTold_134 rfl ?_
  refine sw_iast (j := 2) (pc' := 137) rfl dX5_houseTold_136 zg3 (by show 100 ≤ _; omega) rfl (by omega) (by omega) ?_
  refine sw_nm (fun g4 eg4 => ?_)
  have zg4 := (congrFun eg4 n).trans (up_s (h := g3) (i := n))
  refine sw_dup (pc' := 138) rfl dX5_houseTold_137 rfl ?_
  refine sw_iconst (pc' := 139) (v := 3) rfl dX5_houseTold_138 (by decide +kernel) ?_
  refine sw_iload (pc' := 141) rfl dX5_houseTold_139 rfl ?_
  refine sw_iast (j := 3) (pc' := 142) rfl dX5_houseTold_141 zg4 (by show 100 ≤ _; omega) rfl (by omega) (by omega) ?_
  refine sw_nm (fun g5 eg5 => ?_)
  have zg5 := (congrFun eg5 n).trans (up_s (h := g4) (i := n))
  refine sw_dup (pc' := 143) rfl dX5_houseTold_142 rfl ?_
  refine sw_iconst (pc' := 144) (v := 4) rfl dX5_houseTold_143 (by decide +kernel) ?_
  refine sw_aload_n (pc' := 145) rfl dX5_houseTold_144 rfl ?_
  refine sw_getf (ci := 6) (k := 2) (pc' := 148) rfl dX5_houseTold_145 (by decide +kernel) w_1115 (((congrFun eg5 135).trans (up_n (by omega))).trans (((congrFun eg4 135).trans (up_n (by omega))).trans (((congrFun eg3 135).trans (up_n (by omega))).trans (((congrFun eg2 135).trans (up_n (by omega))).trans (((congrFun eg1 135).trans (up_n (by omega))).trans hM.ob))))) rfl ?_
  refine sw_iast (j := 4) (pc' := 149) rfl dX5_houseTold_148 zg5 (by show 100 ≤ _; omega) rfl (by omega) (by omega) ?_
  refine sw_nm (fun g6 eg6 => ?_)
  have zg6 := (congrFun eg6 n).trans (up_s (h := g5) (i := n))
  refine sw_dup (pc' := 150) rfl dX5_houseTold_149 rfl ?_
  refine sw_iconst (pc' := 151) (v := 5) rfl dX5_houseTold_150 (by decide +kernel) ?_
  refine sw_aload_n (pc' := 152) rfl dX5_houseTold_151 rfl ?_
  refine sw_getf (ci := 6) (k := 1) (pc' := 155) rfl dX5_houseTold_152 (by decide +kernel) w_1114 (((congrFun eg6 135).trans (up_n (by omega))).trans (((congrFun eg5 135).trans (up_n (by omega))).trans (((congrFun eg4 135).trans (up_n (by omega))).trans (((congrFun eg3 135).trans (up_n (by omega))).trans (((congrFun eg2 135).trans (up_n (by omega))).trans (((congrFun eg1 135).trans (up_n (by omega))).trans hM.ob)))))) rfl ?_
  refine sw_iast (j := 5) (pc' := 156) rfl dX5_houseTold_155 zg6 (by show 100 ≤ _; omega) rfl (by omega) (by omega) ?_
  refine sw_nm (fun g7 eg7 => ?_)
  have zg7 := (congrFun eg7 n).trans (up_s (h := g6) (i := n))
  refine sw_astore (pc' := 158) (lv' := [(6, _), (5, _), (4, _), (3, _), (2, _), (0, _), (1, _)]) rfl dX5_houseTold_156 (by decide +kernel) rfl ?_
  refine sw_aload (pc' := 160) rfl dX5_houseTold_158 rfl ?_
  refine sw_iload_n (pc' := 161) rfl dX5_houseTold_160 rfl ?_
  refine sw_iald (j := X) (pc' := 162) rfl dX5_houseTold_161 zg7 rfl (by omega) (by omega) ?_
  refine sw_ret (v := some _) ⟨dX5_houseTold_162, _, rfl, rfl⟩ ?_
  exact ⟨by rw [hoV_k hX], Nat.le_succ _, fun i q => (congrFun eg7 i).trans ((up_n (by omega)).trans ((congrFun eg6 i).trans ((up_n (by omega)).trans ((congrFun eg5 i).trans ((up_n (by omega)).trans ((congrFun eg4 i).trans ((up_n (by omega)).trans ((congrFun eg3 i).trans ((up_n (by omega)).trans ((congrFun eg2 i).trans ((up_n (by omega)).trans ((congrFun eg1 i).trans ((up_n (by omega)).trans (rfl))))))))))))))⟩
theorem q_house {h : AH} {d bc bs n : Nat} {σ : CS} {th : Int32} {x : Int32} (hR : RMo h σ th) (hI : Iv σ) (hn : 159 ≤ n) (hd : 8 ≤ d) (h1 : 1 ≤ bc) (h2 : 12 ≤ bs)  : SM SR0 MX5_house d bc bs [.ref 135, .int x] h n (PM h n (tc sA sA) (opHouse σ x)) := by
  obtain ⟨ρ, τ, hM, hA⟩ := hR
  obtain ⟨G0, hG0, eG0⟩ := hM.out
  refine sm_of pn_OverwalksModel rfl (Nat.le_of_ble_eq_true rfl) ?_
  rcases idxR 5 (by decide +kernel) x with qX | ⟨X, hX, rfl⟩
  · refine sw_aload_n (pc' := 1) rfl dX5_house_0 rfl ?_
    refine sw_iload_n (pc' := 2) rfl dX5_house_1 rfl ?_
    refine sw_iconst (pc' := 3) (v := 0) rfl dX5_house_2 (by decide +kernel) ?_
    refine sw_iconst (pc' := 4) (v := 5) rfl dX5_house_3 (by decide +kernel) ?_
    refine sw_S (M' := MX5_isIn) (d' := d - 1) (bc' := 0) (bs' := 0) (as := [_, _, _]) dX5_house_4 w_1168 ok_X5_isIn (q_isIn) (by omega) (Nat.le_of_ble_eq_true rfl) (Nat.zero_le _) (Nat.zero_le _) (fun E h' n' _ z => det_x z) (det_k ?_)
    rw [show inB x 0 5 = false from inB_x qX]
    show SW _ _ _ _ _ _ _ (.int 0 :: _) _ _ _
    refine sw_if_ne (pc' := 10) (tgt := 14) rfl dX5_house_7 (by decide +kernel) (fun c7 => ?_) (fun c7 => ?_)
    · exact absurd c7 (by decide +kernel)
    · refine sw_iconst (pc' := 11) (v := 1) rfl dX5_house_10 (by decide +kernel) ?_
      refine sw_goto (tgt := 15) dX5_house_11 (by decide +kernel) ?_
      refine sw_V (M' := MX5_isStopped__) (d' := d - 1) (bc' := 0) (bs' := 0) (ci := 6) (as := [_]) dX5_house_15 w_1235 ok_X5_isStopped__ (q_isStopped1 (a := true) hM hA (by omega)) hM.ob rfl (by omega) (Nat.le_of_ble_eq_true rfl) (Nat.zero_le _) (Nat.zero_le _) (fun E h' n' _ z => rp_x z) (rp_k (fun p15 p15ρ p15τ p15M p15A p15F => ?_))
      obtain ⟨Gp15, hGp15, eGp15⟩ := p15M.out
      show SW _ _ _ _ _ _ _ (.int 1 :: _) _ _ _
      refine sw_if_eq (pc' := 21) (tgt := 25) rfl dX5_house_18 (by decide +kernel) (fun c18 => ?_) (fun c18 => ?_)
      · exact absurd c18 (by decide +kernel)
      · refine sw_iconst (pc' := 22) (v := 0) rfl dX5_house_21 (by decide +kernel) ?_
        refine sw_goto (tgt := 30) dX5_house_22 (by decide +kernel) ?_
        refine sw_ret (v := some _) ⟨dX5_house_30, _, rfl, rfl⟩ ?_
        rw [opHouse_x qX]
        exact pm_x tc_1 p15M p15A p15F (Nat.le_refl _)
  refine sw_aload_n (pc' := 1) rfl dX5_house_0 rfl ?_
  refine sw_iload_n (pc' := 2) rfl dX5_house_1 rfl ?_
  refine sw_iconst (pc' := 3) (v := 0) rfl dX5_house_2 (by decide +kernel) ?_
  refine sw_iconst (pc' := 4) (v := 5) rfl dX5_house_3 (by decide +kernel) ?_
  refine sw_S (M' := MX5_isIn) (d' := d - 1) (bc' := 0) (bs' := 0) (as := [_, _, _]) dX5_house_4 w_1168 ok_X5_isIn (q_isIn) (by omega) (Nat.le_of_ble_eq_true rfl) (Nat.zero_le _) (Nat.zero_le _) (fun E h' n' _ z => det_x z) (det_k ?_)
  rw [show inB (nI X) 0 5 = true from inB_k (N := 5) hX (by decide +kernel)]
  show SW _ _ _ _ _ _ _ (.int 1 :: _) _ _ _
  refine sw_if_ne (pc' := 10) (tgt := 14) rfl dX5_house_7 (by decide +kernel) (fun c7 => ?_) (fun c7 => ?_)
  · refine sw_iconst (pc' := 15) (v := 0) rfl dX5_house_14 (by decide +kernel) ?_
    refine sw_V (M' := MX5_isStopped__) (d' := d - 1) (bc' := 0) (bs' := 0) (ci := 6) (as := [_]) dX5_house_15 w_1235 ok_X5_isStopped__ (q_isStopped1 (a := false) hM hA (by omega)) hM.ob rfl (by omega) (Nat.le_of_ble_eq_true rfl) (Nat.zero_le _) (Nat.zero_le _) (fun E h' n' _ z => rp_x z) (rp_k (fun p15 p15ρ p15τ p15M p15A p15F => ?_))
    obtain ⟨Gp15, hGp15, eGp15⟩ := p15M.out
    show SW _ _ _ _ _ _ _ (.int 0 :: _) _ _ _
    refine sw_if_eq (pc' := 21) (tgt := 25) rfl dX5_house_18 (by decide +kernel) (fun c18 => ?_) (fun c18 => ?_)
    · refine sw_aload_n (pc' := 26) rfl dX5_house_25 rfl ?_
      refine sw_iload_n (pc' := 27) rfl dX5_house_26 rfl ?_
      refine sw_V (M' := MX5_houseTold) (d' := d - 1) (bc' := 1) (bs' := 12) (ci := 6) (as := [_]) dX5_house_27 w_1467 ok_X5_houseTold (q_houseTold p15M p15A hI hX (by omega) (by omega) (by omega) (by omega)) p15M.ob rfl (by omega) (Nat.le_of_ble_eq_true rfl) (by omega) (by omega) (fun E h' n' _ z => tp_x z) (tp_k (fun p27 p27n p27k p27F => ?_))
      have p27M := p15M.fr (fun i h1 h2 => p27F i (by omega))
      refine sw_ret (v := some _) ⟨dX5_house_30, _, rfl, rfl⟩ ?_
      rw [opHouse_k hX]
      exact pm_k p27M p15A (p15F.tr (fun i _ q => p27F i q) (Nat.le_refl _)) p27k
    · exact absurd c18 (by decide +kernel)
  · exact absurd c7 (by decide +kernel)
end
section
/-! 48.model -/
/-! the model: putAll, digest -/
theorem caM_up {k : Nat} {a b c e : Int32} {f : Nat → Int32} {m : Nat} (hm : m ≤ 4) {w : Bool} {σ : CS} : caM k (up (up (up (up f 0 a) 1 b) 2 c) 3 e) 0 m w σ = paM k a b c e 0 m w σ := by
  rw [caM_pa]
  exact caM_cg (fun i _ hi => o4_up i (by omega))
theorem wrB_cg {f g : Nat → Int32} {m : Nat} : ∀ {j : Nat}, (∀ i, j ≤ i → i < j + m → f i = g i) → wrB f j m = wrB g j m := by
  induction m with
  | zero => intro j _; rfl
  | succ m ih =>
    intro j h
    unfold wrB
    rw [h j (Nat.le_refl _) (by omega), ih (fun i h1 h2 => h i (by omega) (by omega))]
theorem taB_n {k : Nat} {x : Int32} {w b : Bool} : (w || !(tkB k x && b)) = (w || (decide (x = 100) && !kN (kdO k)) || !b) := by
  unfold tkB
  by_cases e : x = 100
  · rw [decide_eq_false (fun q => q e), decide_eq_true e, Bool.false_or, Bool.true_and, Bool.not_and, Bool.or_assoc]
  · rw [decide_eq_true (show x ≠ 100 from e), decide_eq_false e, Bool.true_or, Bool.true_and, Bool.false_and, Bool.or_false]
theorem ql_pa1 {h : AH} {d bc bs : Nat} {z N : Nat} {g : Nat → Int32} {s a b c e : Int32} {Post : ARes → AH → Nat → Prop} (hB : h z = .inl (0, 4, .inl g)) (hz : 158 ≤ z) (hd : 3 ≤ d) (m : Nat) : ∀ (j : Nat) (w : Bool), j + m = 4 → SW SR0 MX5_putAll d bc bs 79 [(10, .int (nI 4)), (7, .int (bI (w || wrB g j m))), (9, .int (nI 4)), (8, .ref z), (6, .ref z), (0, .ref 135), (1, .int s), (2, .int a), (3, .int b), (4, .int c), (5, .int e)] [] h N Post → SW SR0 MX5_putAll d bc bs 38 [(10, .int (nI j)), (7, .int (bI w)), (9, .int (nI 4)), (8, .ref z), (6, .ref z), (0, .ref 135), (1, .int s), (2, .int a), (3, .int b), (4, .int c), (5, .int e)] [] h N Post := by
  induction m with
  | zero =>
    intro j w hj fq
    rw [show wrB g j 0 = false from rfl, Bool.or_false] at fq
    have hj4 : j = 4 := by omega
    subst hj4
    refine sw_iload (pc' := 40) rfl dX5_putAll_38 rfl ?_
    refine sw_iload (pc' := 42) rfl dX5_putAll_40 rfl ?_
    refine sw_icmp_ge (pc' := 45) (tgt := 79) rfl dX5_putAll_42 (by decide +kernel) (fun c42 => ?_) (fun c42 => ?_)
    · exact fq
    · exact absurd (Int32.le_refl (nI 4)) c42
  | succ m ih =>
    intro j w hj fq
    rw [wrB, ← Bool.or_assoc] at fq
    refine sw_iload (pc' := 40) rfl dX5_putAll_38 rfl ?_
    refine sw_iload (pc' := 42) rfl dX5_putAll_40 rfl ?_
    refine sw_icmp_ge (pc' := 45) (tgt := 79) rfl dX5_putAll_42 (by decide +kernel) (fun c42 => ?_) (fun c42 => ?_)
    · exact absurd c42 (nI_ge (b := 4) (by omega) (by decide +kernel))
    · refine sw_aload (pc' := 47) rfl dX5_putAll_45 rfl ?_
      refine sw_iload (pc' := 49) rfl dX5_putAll_47 rfl ?_
      refine sw_iald (j := j) (pc' := 50) rfl dX5_putAll_49 hB rfl (by omega) (by decide +kernel) ?_
      refine sw_istore (pc' := 52) (lv' := [(11, _), (10, _), (7, _), (9, _), (8, _), (6, _), (0, _), (1, _), (2, _), (3, _), (4, _), (5, _)]) rfl dX5_putAll_50 (by decide +kernel) rfl ?_
      refine sw_iload (pc' := 54) rfl dX5_putAll_52 rfl ?_
      refine sw_iload (pc' := 56) rfl dX5_putAll_54 rfl ?_
      refine sw_iconst (pc' := 57) (v := (-1)) rfl dX5_putAll_56 (by decide +kernel) ?_
      refine sw_bipush (pc' := 59) (v := 100) rfl dX5_putAll_57 (by decide +kernel) ?_
      refine sw_S (M' := MX5_isIn) (d' := d - 1) (bc' := 0) (bs' := 0) (as := [_, _, _]) dX5_putAll_59 w_1168 ok_X5_isIn (q_isIn) (by omega) (Nat.le_of_ble_eq_true rfl) (Nat.zero_le _) (Nat.zero_le _) (fun E h' n' _ z => det_x z) (det_k ?_)
      refine sw_if_ne (pc' := 65) (tgt := 69) rfl dX5_putAll_62 (by decide +kernel) (fun c62 => ?_) (fun c62 => ?_)
      · refine sw_iconst (pc' := 70) (v := 0) rfl dX5_putAll_69 (by decide +kernel) ?_
        refine sw_ior (pc' := 71) rfl dX5_putAll_70 ?_
        rw [show bI w ||| 0 = bI (w || false) from bI_or (b := false)]
        refine sw_istore (pc' := 73) (lv' := [(7, _), (11, _), (10, _), (9, _), (8, _), (6, _), (0, _), (1, _), (2, _), (3, _), (4, _), (5, _)]) rfl dX5_putAll_71 (by decide +kernel) rfl ?_
        refine sw_iinc (pc' := 76) (lv' := [(10, _), (7, _), (11, _), (9, _), (8, _), (6, _), (0, _), (1, _), (2, _), (3, _), (4, _), (5, _)]) (v := nI (j + 1)) rfl dX5_putAll_73 rfl (nI_1 j) (by decide +kernel) rfl ?_
        refine sw_goto (tgt := 38) dX5_putAll_76 (by decide +kernel) ?_
        rw [bI_1 c62] at fq
        exact SW.pick [0, 1, 3, 4, 5, 6, 7, 8, 9, 10, 11] rfl (ih (j + 1) (w || false) (by omega) fq)
      · refine sw_iconst (pc' := 66) (v := 1) rfl dX5_putAll_65 (by decide +kernel) ?_
        refine sw_goto (tgt := 70) dX5_putAll_66 (by decide +kernel) ?_
        refine sw_ior (pc' := 71) rfl dX5_putAll_70 ?_
        rw [show bI w ||| 1 = bI (w || true) from bI_or (b := true)]
        refine sw_istore (pc' := 73) (lv' := [(7, _), (11, _), (10, _), (9, _), (8, _), (6, _), (0, _), (1, _), (2, _), (3, _), (4, _), (5, _)]) rfl dX5_putAll_71 (by decide +kernel) rfl ?_
        refine sw_iinc (pc' := 76) (lv' := [(10, _), (7, _), (11, _), (9, _), (8, _), (6, _), (0, _), (1, _), (2, _), (3, _), (4, _), (5, _)]) (v := nI (j + 1)) rfl dX5_putAll_73 rfl (nI_1 j) (by decide +kernel) rfl ?_
        refine sw_goto (tgt := 38) dX5_putAll_76 (by decide +kernel) ?_
        rw [bI_0 c62] at fq
        exact SW.pick [0, 1, 3, 4, 5, 6, 7, 8, 9, 10, 11] rfl (ih (j + 1) (w || true) (by omega) fq)
theorem ql_pa2 {h : AH} {d bc bs : Nat} {w : Bool} {z N : Nat} {g : Nat → Int32} {s a b c e : Int32} {Post : ARes → AH → Nat → Prop} (hB : h z = .inl (0, 4, .inl g)) (hz : 158 ≤ z) (hd : 3 ≤ d) (hg : ∀ i, i < 4 → g i = o4 (nI i) a b c e) (m : Nat) : ∀ (j : Nat), j + m = 4 → SW SR0 MX5_putAll d bc bs 103 [(8, .int (nI (cfN a b c e j m))), (7, .int (bI w)), (6, .ref z), (0, .ref 135), (1, .int s), (2, .int a), (3, .int b), (4, .int c), (5, .int e)] [] h N Post → SW SR0 MX5_putAll d bc bs 82 [(8, .int (nI j)), (7, .int (bI w)), (6, .ref z), (0, .ref 135), (1, .int s), (2, .int a), (3, .int b), (4, .int c), (5, .int e)] [] h N Post := by
  induction m with
  | zero =>
    intro j hj fq
    have hj4 : j = 4 := by omega
    subst hj4
    refine sw_iload (pc' := 84) rfl dX5_putAll_82 rfl ?_
    refine sw_iconst (pc' := 85) (v := 4) rfl dX5_putAll_84 (by decide +kernel) ?_
    refine sw_icmp_ge (pc' := 88) (tgt := 103) rfl dX5_putAll_85 (by decide +kernel) (fun c85 => ?_) (fun c85 => ?_)
    · exact fq
    · exact absurd (Int32.le_refl (nI 4)) c85
  | succ m ih =>
    intro j hj fq
    rw [cfN] at fq
    refine sw_iload (pc' := 84) rfl dX5_putAll_82 rfl ?_
    refine sw_iconst (pc' := 85) (v := 4) rfl dX5_putAll_84 (by decide +kernel) ?_
    refine sw_icmp_ge (pc' := 88) (tgt := 103) rfl dX5_putAll_85 (by decide +kernel) (fun c85 => ?_) (fun c85 => ?_)
    · exact absurd c85 (nI_ge (b := 4) (by omega) (by decide +kernel))
    · refine sw_aload (pc' := 90) rfl dX5_putAll_88 rfl ?_
      refine sw_iload (pc' := 92) rfl dX5_putAll_90 rfl ?_
      refine sw_iald (j := j) (pc' := 93) rfl dX5_putAll_92 hB rfl (by omega) (by decide +kernel) ?_
      rw [hg j (by omega)]
      refine sw_iconst (pc' := 94) (v := (-1)) rfl dX5_putAll_93 (by decide +kernel) ?_
      refine sw_icmp_eq (pc' := 97) (tgt := 103) rfl dX5_putAll_94 (by decide +kernel) (fun c94 => ?_) (fun c94 => ?_)
      · rw [if_pos c94] at fq
        exact fq
      · refine sw_iinc (pc' := 100) (lv' := [(8, _), (7, _), (6, _), (0, _), (1, _), (2, _), (3, _), (4, _), (5, _)]) (v := nI (j + 1)) rfl dX5_putAll_97 rfl (nI_1 j) (by decide +kernel) rfl ?_
        refine sw_goto (tgt := 82) dX5_putAll_100 (by decide +kernel) ?_
        rw [if_neg c94] at fq
        exact ih (j + 1) (by omega) fq
theorem ql_pa3 {h : AH} {d bc bs k M9 : Nat} {z N : Nat} {g : Nat → Int32} {s a b c e : Int32} {Post : ARes → AH → Nat → Prop} (hB : h z = .inl (0, 4, .inl g)) (hz : 158 ≤ z) (hd : 3 ≤ d) (hg : ∀ i, i < 4 → g i = o4 (nI i) a b c e) (hk : k < 11) (hM9 : M9 ≤ 4) (m : Nat) : ∀ (j : Nat) (w : Bool), j + m = M9 → SW SR0 MX5_putAll d bc bs 193 [(10, .int (nI M9)), (9, .int (bI (w || !taB k a b c e j m))), (8, .int (nI M9)), (6, .ref z), (0, .ref 135), (1, .int (nI k)), (2, .int a), (3, .int b), (4, .int c), (5, .int e)] [] h N Post → SW SR0 MX5_putAll d bc bs 153 [(10, .int (nI j)), (9, .int (bI w)), (8, .int (nI M9)), (6, .ref z), (0, .ref 135), (1, .int (nI k)), (2, .int a), (3, .int b), (4, .int c), (5, .int e)] [] h N Post := by
  induction m with
  | zero =>
    intro j w hj fq
    rw [show taB k a b c e j 0 = true from rfl, Bool.not_true, Bool.or_false] at fq
    have hj4 : j = M9 := by omega
    subst hj4
    refine sw_iload (pc' := 155) rfl dX5_putAll_153 rfl ?_
    refine sw_iload (pc' := 157) rfl dX5_putAll_155 rfl ?_
    refine sw_icmp_ge (pc' := 160) (tgt := 193) rfl dX5_putAll_157 (by decide +kernel) (fun c157 => ?_) (fun c157 => ?_)
    · exact fq
    · exact absurd (Int32.le_refl _) c157
  | succ m ih =>
    intro j w hj fq
    rw [taB, taB_n] at fq
    refine sw_iload (pc' := 155) rfl dX5_putAll_153 rfl ?_
    refine sw_iload (pc' := 157) rfl dX5_putAll_155 rfl ?_
    refine sw_icmp_ge (pc' := 160) (tgt := 193) rfl dX5_putAll_157 (by decide +kernel) (fun c157 => ?_) (fun c157 => ?_)
    · exact absurd c157 (nI_ge (by omega) (by omega))
    · refine sw_iload (pc' := 162) rfl dX5_putAll_160 rfl ?_
      refine sw_aload (pc' := 164) rfl dX5_putAll_162 rfl ?_
      refine sw_iload (pc' := 166) rfl dX5_putAll_164 rfl ?_
      refine sw_iald (j := j) (pc' := 167) rfl dX5_putAll_166 hB rfl (by omega) (by decide +kernel) ?_
      rw [hg j (by omega)]
      refine sw_bipush (pc' := 169) (v := 100) rfl dX5_putAll_167 (by decide +kernel) ?_
      refine sw_icmp_ne (pc' := 172) (tgt := 183) rfl dX5_putAll_169 (by decide +kernel) (fun c169 => ?_) (fun c169 => ?_)
      · refine sw_iconst (pc' := 184) (v := 0) rfl dX5_putAll_183 (by decide +kernel) ?_
        refine sw_ior (pc' := 185) rfl dX5_putAll_184 ?_
        rw [show bI w ||| 0 = bI (w || false) from bI_or (b := false)]
        refine sw_istore (pc' := 187) (lv' := [(9, _), (10, _), (8, _), (6, _), (0, _), (1, _), (2, _), (3, _), (4, _), (5, _)]) rfl dX5_putAll_185 (by decide +kernel) rfl ?_
        refine sw_iinc (pc' := 190) (lv' := [(10, _), (9, _), (8, _), (6, _), (0, _), (1, _), (2, _), (3, _), (4, _), (5, _)]) (v := nI (j + 1)) rfl dX5_putAll_187 rfl (nI_1 j) (by decide +kernel) rfl ?_
        refine sw_goto (tgt := 153) dX5_putAll_190 (by decide +kernel) ?_
        rw [decide_eq_false c169, Bool.false_and] at fq
        exact SW.pick [0, 1, 2, 3, 4, 5, 6, 7, 8, 9] rfl (ih (j + 1) (w || false) (by omega) fq)
      · refine sw_iload_n (pc' := 173) rfl dX5_putAll_172 rfl ?_
        refine sw_S (M' := MX5_takesNothing) (d' := d - 1) (bc' := 0) (bs' := 0) (as := [_]) dX5_putAll_173 w_1181 ok_X5_takesNothing (q_takesNothing (by omega)) (by omega) (Nat.le_of_ble_eq_true rfl) (Nat.zero_le _) (Nat.zero_le _) (fun E h' n' _ z => det_x z) (det_k ?_)
        rw [tn_k hk]
        refine sw_if_ne (pc' := 179) (tgt := 183) rfl dX5_putAll_176 (by decide +kernel) (fun c176 => ?_) (fun c176 => ?_)
        · refine sw_iconst (pc' := 184) (v := 0) rfl dX5_putAll_183 (by decide +kernel) ?_
          refine sw_ior (pc' := 185) rfl dX5_putAll_184 ?_
          rw [show bI w ||| 0 = bI (w || false) from bI_or (b := false)]
          refine sw_istore (pc' := 187) (lv' := [(9, _), (10, _), (8, _), (6, _), (0, _), (1, _), (2, _), (3, _), (4, _), (5, _)]) rfl dX5_putAll_185 (by decide +kernel) rfl ?_
          refine sw_iinc (pc' := 190) (lv' := [(10, _), (9, _), (8, _), (6, _), (0, _), (1, _), (2, _), (3, _), (4, _), (5, _)]) (v := nI (j + 1)) rfl dX5_putAll_187 rfl (nI_1 j) (by decide +kernel) rfl ?_
          refine sw_goto (tgt := 153) dX5_putAll_190 (by decide +kernel) ?_
          rw [bI_1 c176, Bool.not_true, Bool.and_false] at fq
          exact SW.pick [0, 1, 2, 3, 4, 5, 6, 7, 8, 9] rfl (ih (j + 1) (w || false) (by omega) fq)
        · refine sw_iconst (pc' := 180) (v := 1) rfl dX5_putAll_179 (by decide +kernel) ?_
          refine sw_goto (tgt := 184) dX5_putAll_180 (by decide +kernel) ?_
          refine sw_ior (pc' := 185) rfl dX5_putAll_184 ?_
          rw [show bI w ||| 1 = bI (w || true) from bI_or (b := true)]
          refine sw_istore (pc' := 187) (lv' := [(9, _), (10, _), (8, _), (6, _), (0, _), (1, _), (2, _), (3, _), (4, _), (5, _)]) rfl dX5_putAll_185 (by decide +kernel) rfl ?_
          refine sw_iinc (pc' := 190) (lv' := [(10, _), (9, _), (8, _), (6, _), (0, _), (1, _), (2, _), (3, _), (4, _), (5, _)]) (v := nI (j + 1)) rfl dX5_putAll_187 rfl (nI_1 j) (by decide +kernel) rfl ?_
          refine sw_goto (tgt := 153) dX5_putAll_190 (by decide +kernel) ?_
          rw [decide_eq_true c169, bI_0 c176] at fq
          exact SW.pick [0, 1, 2, 3, 4, 5, 6, 7, 8, 9] rfl (ih (j + 1) (w || true) (by omega) fq)
theorem q_putAll {h : AH} {d bc bs n : Nat} {σ : CS} {th : Int32} {s a b c e : Int32} (hR : RMo h σ th) (hI : Iv σ) (hn : 159 ≤ n) (hd : 8 ≤ d) (h1 : 1 ≤ bc) (h2 : 12 ≤ bs)  : SM SR0 MX5_putAll d bc bs [.ref 135, .int s, .int a, .int b, .int c, .int e] h n (PM h n (tc sI sA) (opPutAll σ s a b c e)) := by
  obtain ⟨ρ, τ, hM, hA⟩ := hR
  obtain ⟨G0, hG0, eG0⟩ := hM.out
  have hcf := (cfN_le (a := a) (b := b) (c := c) (e := e) (m := 4) (j := 0)).2
  refine sm_of pn_OverwalksModel rfl (Nat.le_of_ble_eq_true rfl) ?_
  rcases idxN 11 (by decide +kernel) s with qk1 | ⟨k, hk, rfl⟩
  · refine sw_iconst (pc' := 1) (v := 4) rfl dX5_putAll_0 (by decide +kernel) ?_
    refine sw_newa (t := 0) (len := 4) (pc' := 3) rfl dX5_putAll_1 (by decide +kernel) w_101 rfl (by omega) (by omega) (by omega) ?_
    refine sw_nm (fun g1 eg1 => ?_)
    have zg1 := (congrFun eg1 n).trans (up_s (h := h) (i := n))
    refine sw_dup (pc' := 4) rfl dX5_putAll_3 rfl ?_
    refine sw_iconst (pc' := 5) (v := 0) rfl dX5_putAll_4 (by decide +kernel) ?_
    refine sw_iload_n (pc' := 6) rfl dX5_putAll_5 rfl ?_
    refine sw_iast (j := 0) (pc' := 7) rfl dX5_putAll_6 zg1 (by show 100 ≤ _; omega) rfl (by omega) (by omega) ?_
    refine sw_nm (fun g2 eg2 => ?_)
    have zg2 := (congrFun eg2 n).trans (up_s (h := g1) (i := n))
    refine sw_dup (pc' := 8) rfl dX5_putAll_7 rfl ?_
    refine sw_iconst (pc' := 9) (v := 1) rfl dX5_putAll_8 (by decide +kernel) ?_
    refine sw_iload_n (pc' := 10) rfl dX5_putAll_9 rfl ?_
    refine sw_iast (j := 1) (pc' := 11) rfl dX5_putAll_10 zg2 (by show 100 ≤ _; omega) rfl (by omega) (by omega) ?_
    refine sw_nm (fun g3 eg3 => ?_)
    have zg3 := (congrFun eg3 n).trans (up_s (h := g2) (i := n))
    refine sw_dup (pc' := 12) rfl dX5_putAll_11 rfl ?_
    refine sw_iconst (pc' := 13) (v := 2) rfl dX5_putAll_12 (by decide +kernel) ?_
    refine sw_iload (pc' := 15) rfl dX5_putAll_13 rfl ?_
    refine sw_iast (j := 2) (pc' := 16) rfl dX5_putAll_15 zg3 (by show 100 ≤ _; omega) rfl (by omega) (by omega) ?_
    refine sw_nm (fun g4 eg4 => ?_)
    have zg4 := (congrFun eg4 n).trans (up_s (h := g3) (i := n))
    refine sw_dup (pc' := 17) rfl dX5_putAll_16 rfl ?_
    refine sw_iconst (pc' := 18) (v := 3) rfl dX5_putAll_17 (by decide +kernel) ?_
    refine sw_iload (pc' := 20) rfl dX5_putAll_18 rfl ?_
    refine sw_iast (j := 3) (pc' := 21) rfl dX5_putAll_20 zg4 (by show 100 ≤ _; omega) rfl (by omega) (by omega) ?_
    refine sw_nm (fun g5 eg5 => ?_)
    have zg5 := (congrFun eg5 n).trans (up_s (h := g4) (i := n))
    refine sw_astore (pc' := 23) (lv' := [(6, _), (0, _), (1, _), (2, _), (3, _), (4, _), (5, _)]) rfl dX5_putAll_21 (by decide +kernel) rfl ?_
    refine sw_iconst (pc' := 24) (v := 0) rfl dX5_putAll_23 (by decide +kernel) ?_
    refine sw_istore (pc' := 26) (lv' := [(7, _), (6, _), (0, _), (1, _), (2, _), (3, _), (4, _), (5, _)]) rfl dX5_putAll_24 (by decide +kernel) rfl ?_
    refine sw_aload (pc' := 28) rfl dX5_putAll_26 rfl ?_
    refine sw_astore (pc' := 30) (lv' := [(8, _), (7, _), (6, _), (0, _), (1, _), (2, _), (3, _), (4, _), (5, _)]) rfl dX5_putAll_28 (by decide +kernel) rfl ?_
    refine sw_aload (pc' := 32) rfl dX5_putAll_30 rfl ?_
    refine sw_alen (pc' := 33) rfl dX5_putAll_32 zg5 (by decide +kernel) (Or.inl (by show 100 ≤ _; omega)) ?_
    refine sw_istore (pc' := 35) (lv' := [(9, _), (8, _), (7, _), (6, _), (0, _), (1, _), (2, _), (3, _), (4, _), (5, _)]) rfl dX5_putAll_33 (by decide +kernel) rfl ?_
    refine sw_iconst (pc' := 36) (v := 0) rfl dX5_putAll_35 (by decide +kernel) ?_
    refine sw_istore (pc' := 38) (lv' := [(10, _), (9, _), (8, _), (7, _), (6, _), (0, _), (1, _), (2, _), (3, _), (4, _), (5, _)]) rfl dX5_putAll_36 (by decide +kernel) rfl ?_
    have zM : MM g5 ρ τ σ th := hM.fr (fun i h1 h2 => (congrFun eg5 i).trans ((up_n (by omega)).trans ((congrFun eg4 i).trans ((up_n (by omega)).trans ((congrFun eg3 i).trans ((up_n (by omega)).trans ((congrFun eg2 i).trans ((up_n (by omega)).trans ((congrFun eg1 i).trans ((up_n (by omega)).trans (rfl)))))))))))
    have zF : FrM h g5 n := fun i q g => (congrFun eg5 i).trans ((up_n (by omega)).trans ((congrFun eg4 i).trans ((up_n (by omega)).trans ((congrFun eg3 i).trans ((up_n (by omega)).trans ((congrFun eg2 i).trans ((up_n (by omega)).trans ((congrFun eg1 i).trans ((up_n (by omega)).trans (rfl))))))))))
    obtain ⟨Gz, hGz, eGz⟩ := zM.out
    refine SW.pick [0, 3, 1, 2, 4, 5, 6, 7, 8, 9, 10] rfl (ql_pa1 zg5 (by omega) (by omega) 4 0 false rfl ?_)
    rw [Bool.false_or, wrB_cg (g := fun i => o4 (nI i) a b c e) (fun i _ hi => o4_up i (by omega))]
    refine sw_iconst (pc' := 80) (v := 0) rfl dX5_putAll_79 (by decide +kernel) ?_
    refine sw_istore (pc' := 82) (lv' := [(8, _), (10, _), (7, _), (9, _), (6, _), (0, _), (1, _), (2, _), (3, _), (4, _), (5, _)]) rfl dX5_putAll_80 (by decide +kernel) rfl ?_
    refine SW.pick [0, 2, 4, 5, 6, 7, 8, 9, 10] rfl (ql_pa2 zg5 (by omega) (by omega) (fun i hi => o4_up i hi) 4 0 rfl ?_)
    refine sw_aload_n (pc' := 104) rfl dX5_putAll_103 rfl ?_
    refine sw_iload_n (pc' := 105) rfl dX5_putAll_104 rfl ?_
    refine sw_S (M' := MX5_isNone) (d' := d - 1) (bc' := 0) (bs' := 0) (as := [_]) dX5_putAll_105 w_1165 ok_X5_isNone (q_isNone (by omega)) (by omega) (Nat.le_of_ble_eq_true rfl) (Nat.zero_le _) (Nat.zero_le _) (fun E h' n' _ z => det_x z) (det_k ?_)
    rw [show inB s 0 10 = false from no_x (N := 10) (by decide +kernel) qk1]
    show SW _ _ _ _ _ _ _ (.int 1 :: _) _ _ _
    refine sw_iload (pc' := 110) rfl dX5_putAll_108 rfl ?_
    refine sw_iload_n (pc' := 111) rfl dX5_putAll_110 rfl ?_
    refine sw_S (M' := MX5_isNone) (d' := d - 1) (bc' := 0) (bs' := 0) (as := [_]) dX5_putAll_111 w_1165 ok_X5_isNone (q_isNone (by omega)) (by omega) (Nat.le_of_ble_eq_true rfl) (Nat.zero_le _) (Nat.zero_le _) (fun E h' n' _ z => det_x z) (det_k ?_)
    rw [show inB s 0 10 = false from no_x (N := 10) (by decide +kernel) qk1]
    show SW _ _ _ _ _ _ _ (.int 1 :: _) _ _ _
    refine sw_if_ne (pc' := 117) (tgt := 135) rfl dX5_putAll_114 (by decide +kernel) (fun c114 => ?_) (fun c114 => ?_)
    · refine sw_iconst (pc' := 136) (v := 0) rfl dX5_putAll_135 (by decide +kernel) ?_
      refine sw_V (M' := MX5_isStopped) (d' := d - 1) (bc' := 0) (bs' := 0) (ci := 6) (as := [_, _, _]) dX5_putAll_136 w_1174 ok_X5_isStopped (q_isStopped (a := true) (b := (wrB (fun i => o4 (nI i) a b c e) 0 4)) (c := false) zM hA) zM.ob rfl (by omega) (Nat.le_of_ble_eq_true rfl) (Nat.zero_le _) (Nat.zero_le _) (fun E h' n' _ z => rp_x z) (rp_k (fun p136 p136ρ p136τ p136M p136A p136F => ?_))
      obtain ⟨Gp136, hGp136, eGp136⟩ := p136M.out
      show SW _ _ _ _ _ _ _ (.int 1 :: _) _ _ _
      refine sw_if_eq (pc' := 142) (tgt := 144) rfl dX5_putAll_139 (by decide +kernel) (fun c139 => ?_) (fun c139 => ?_)
      · exact absurd c139 (by decide +kernel)
      · refine sw_iconst (pc' := 143) (v := 0) rfl dX5_putAll_142 (by decide +kernel) ?_
        refine sw_ret (v := some _) ⟨dX5_putAll_143, _, rfl, rfl⟩ ?_
        rw [opPutAll, onSh_x qk1]
        exact pm_x tc_1 p136M p136A (zF.tr p136F (Nat.le_succ _)) (Nat.le_succ _)
    · exact absurd c114 (by decide +kernel)
  have hck := hI.1 k hk
  rcases Classical.em (wrB (fun i => o4 (nI i) a b c e) 0 4 = true) with qw | qw
  · refine sw_iconst (pc' := 1) (v := 4) rfl dX5_putAll_0 (by decide +kernel) ?_
    refine sw_newa (t := 0) (len := 4) (pc' := 3) rfl dX5_putAll_1 (by decide +kernel) w_101 rfl (by omega) (by omega) (by omega) ?_
    refine sw_nm (fun g6 eg6 => ?_)
    have zg6 := (congrFun eg6 n).trans (up_s (h := h) (i := n))
    refine sw_dup (pc' := 4) rfl dX5_putAll_3 rfl ?_
    refine sw_iconst (pc' := 5) (v := 0) rfl dX5_putAll_4 (by decide +kernel) ?_
    refine sw_iload_n (pc' := 6) rfl dX5_putAll_5 rfl ?_
    refine sw_iast (j := 0) (pc' := 7) rfl dX5_putAll_6 zg6 (by show 100 ≤ _; omega) rfl (by omega) (by omega) ?_
    refine sw_nm (fun g7 eg7 => ?_)
    have zg7 := (congrFun eg7 n).trans (up_s (h := g6) (i := n))
    refine sw_dup (pc' := 8) rfl dX5_putAll_7 rfl ?_
    refine sw_iconst (pc' := 9) (v := 1) rfl dX5_putAll_8 (by decide +kernel) ?_
    refine sw_iload_n (pc' := 10) rfl dX5_putAll_9 rfl ?_
    refine sw_iast (j := 1) (pc' := 11) rfl dX5_putAll_10 zg7 (by show 100 ≤ _; omega) rfl (by omega) (by omega) ?_
    refine sw_nm (fun g8 eg8 => ?_)
    have zg8 := (congrFun eg8 n).trans (up_s (h := g7) (i := n))
    refine sw_dup (pc' := 12) rfl dX5_putAll_11 rfl ?_
    refine sw_iconst (pc' := 13) (v := 2) rfl dX5_putAll_12 (by decide +kernel) ?_
    refine sw_iload (pc' := 15) rfl dX5_putAll_13 rfl ?_
    refine sw_iast (j := 2) (pc' := 16) rfl dX5_putAll_15 zg8 (by show 100 ≤ _; omega) rfl (by omega) (by omega) ?_
    refine sw_nm (fun g9 eg9 => ?_)
    have zg9 := (congrFun eg9 n).trans (up_s (h := g8) (i := n))
    refine sw_dup (pc' := 17) rfl dX5_putAll_16 rfl ?_
    refine sw_iconst (pc' := 18) (v := 3) rfl dX5_putAll_17 (by decide +kernel) ?_
    refine sw_iload (pc' := 20) rfl dX5_putAll_18 rfl ?_
    refine sw_iast (j := 3) (pc' := 21) rfl dX5_putAll_20 zg9 (by show 100 ≤ _; omega) rfl (by omega) (by omega) ?_
    refine sw_nm (fun g10 eg10 => ?_)
    have zg10 := (congrFun eg10 n).trans (up_s (h := g9) (i := n))
    refine sw_astore (pc' := 23) (lv' := [(6, _), (0, _), (1, _), (2, _), (3, _), (4, _), (5, _)]) rfl dX5_putAll_21 (by decide +kernel) rfl ?_
    refine sw_iconst (pc' := 24) (v := 0) rfl dX5_putAll_23 (by decide +kernel) ?_
    refine sw_istore (pc' := 26) (lv' := [(7, _), (6, _), (0, _), (1, _), (2, _), (3, _), (4, _), (5, _)]) rfl dX5_putAll_24 (by decide +kernel) rfl ?_
    refine sw_aload (pc' := 28) rfl dX5_putAll_26 rfl ?_
    refine sw_astore (pc' := 30) (lv' := [(8, _), (7, _), (6, _), (0, _), (1, _), (2, _), (3, _), (4, _), (5, _)]) rfl dX5_putAll_28 (by decide +kernel) rfl ?_
    refine sw_aload (pc' := 32) rfl dX5_putAll_30 rfl ?_
    refine sw_alen (pc' := 33) rfl dX5_putAll_32 zg10 (by decide +kernel) (Or.inl (by show 100 ≤ _; omega)) ?_
    refine sw_istore (pc' := 35) (lv' := [(9, _), (8, _), (7, _), (6, _), (0, _), (1, _), (2, _), (3, _), (4, _), (5, _)]) rfl dX5_putAll_33 (by decide +kernel) rfl ?_
    refine sw_iconst (pc' := 36) (v := 0) rfl dX5_putAll_35 (by decide +kernel) ?_
    refine sw_istore (pc' := 38) (lv' := [(10, _), (9, _), (8, _), (7, _), (6, _), (0, _), (1, _), (2, _), (3, _), (4, _), (5, _)]) rfl dX5_putAll_36 (by decide +kernel) rfl ?_
    have zM : MM g10 ρ τ σ th := hM.fr (fun i h1 h2 => (congrFun eg10 i).trans ((up_n (by omega)).trans ((congrFun eg9 i).trans ((up_n (by omega)).trans ((congrFun eg8 i).trans ((up_n (by omega)).trans ((congrFun eg7 i).trans ((up_n (by omega)).trans ((congrFun eg6 i).trans ((up_n (by omega)).trans (rfl)))))))))))
    have zF : FrM h g10 n := fun i q g => (congrFun eg10 i).trans ((up_n (by omega)).trans ((congrFun eg9 i).trans ((up_n (by omega)).trans ((congrFun eg8 i).trans ((up_n (by omega)).trans ((congrFun eg7 i).trans ((up_n (by omega)).trans ((congrFun eg6 i).trans ((up_n (by omega)).trans (rfl))))))))))
    obtain ⟨Gz, hGz, eGz⟩ := zM.out
    refine SW.pick [0, 3, 1, 2, 4, 5, 6, 7, 8, 9, 10] rfl (ql_pa1 zg10 (by omega) (by omega) 4 0 false rfl ?_)
    rw [Bool.false_or, wrB_cg (g := fun i => o4 (nI i) a b c e) (fun i _ hi => o4_up i (by omega))]
    rw [show wrB (fun i => o4 (nI i) a b c e) 0 4 = true from qw]
    refine sw_iconst (pc' := 80) (v := 0) rfl dX5_putAll_79 (by decide +kernel) ?_
    refine sw_istore (pc' := 82) (lv' := [(8, _), (10, _), (7, _), (9, _), (6, _), (0, _), (1, _), (2, _), (3, _), (4, _), (5, _)]) rfl dX5_putAll_80 (by decide +kernel) rfl ?_
    refine SW.pick [0, 2, 4, 5, 6, 7, 8, 9, 10] rfl (ql_pa2 zg10 (by omega) (by omega) (fun i hi => o4_up i hi) 4 0 rfl ?_)
    refine sw_aload_n (pc' := 104) rfl dX5_putAll_103 rfl ?_
    refine sw_iload_n (pc' := 105) rfl dX5_putAll_104 rfl ?_
    refine sw_S (M' := MX5_isNone) (d' := d - 1) (bc' := 0) (bs' := 0) (as := [_]) dX5_putAll_105 w_1165 ok_X5_isNone (q_isNone (by omega)) (by omega) (Nat.le_of_ble_eq_true rfl) (Nat.zero_le _) (Nat.zero_le _) (fun E h' n' _ z => det_x z) (det_k ?_)
    rw [show inB (nI k) 0 10 = true from inB_k (N := 10) (by omega) (by decide +kernel)]
    show SW _ _ _ _ _ _ _ (.int 0 :: _) _ _ _
    refine sw_iload (pc' := 110) rfl dX5_putAll_108 rfl ?_
    refine sw_iload_n (pc' := 111) rfl dX5_putAll_110 rfl ?_
    refine sw_S (M' := MX5_isNone) (d' := d - 1) (bc' := 0) (bs' := 0) (as := [_]) dX5_putAll_111 w_1165 ok_X5_isNone (q_isNone (by omega)) (by omega) (Nat.le_of_ble_eq_true rfl) (Nat.zero_le _) (Nat.zero_le _) (fun E h' n' _ z => det_x z) (det_k ?_)
    rw [show inB (nI k) 0 10 = true from inB_k (N := 10) (by omega) (by decide +kernel)]
    show SW _ _ _ _ _ _ _ (.int 0 :: _) _ _ _
    refine sw_if_ne (pc' := 117) (tgt := 135) rfl dX5_putAll_114 (by decide +kernel) (fun c114 => ?_) (fun c114 => ?_)
    · exact absurd c114 (by decide +kernel)
    · refine sw_aload_n (pc' := 118) rfl dX5_putAll_117 rfl ?_
      refine sw_getf (ci := 6) (k := 4) (pc' := 121) rfl dX5_putAll_118 (by decide +kernel) w_1117 zM.ob rfl ?_
      refine sw_iload_n (pc' := 122) rfl dX5_putAll_121 rfl ?_
      refine sw_iald (j := k) (pc' := 123) rfl dX5_putAll_122 zM.sz rfl (by omega) (by decide +kernel) ?_
      refine sw_iload (pc' := 125) rfl dX5_putAll_123 rfl ?_
      refine sw_iadd (pc' := 126) rfl dX5_putAll_125 ?_
      rw [show (nI (σ.2.1 k)) + (nI (cfN a b c e 0 4)) = nI (σ.2.1 k + (cfN a b c e 0 4)) from nI_add _ _]
      refine sw_bipush (pc' := 128) (v := 12) rfl dX5_putAll_126 (by decide +kernel) ?_
      refine sw_icmp_le (pc' := 131) (tgt := 135) rfl dX5_putAll_128 (by decide +kernel) (fun c128 => ?_) (fun c128 => ?_)
      · refine sw_iconst (pc' := 136) (v := 0) rfl dX5_putAll_135 (by decide +kernel) ?_
        refine sw_V (M' := MX5_isStopped) (d' := d - 1) (bc' := 0) (bs' := 0) (ci := 6) (as := [_, _, _]) dX5_putAll_136 w_1174 ok_X5_isStopped (q_isStopped (a := false) (b := true) (c := false) zM hA) zM.ob rfl (by omega) (Nat.le_of_ble_eq_true rfl) (Nat.zero_le _) (Nat.zero_le _) (fun E h' n' _ z => rp_x z) (rp_k (fun p136 p136ρ p136τ p136M p136A p136F => ?_))
        obtain ⟨Gp136, hGp136, eGp136⟩ := p136M.out
        show SW _ _ _ _ _ _ _ (.int 1 :: _) _ _ _
        refine sw_if_eq (pc' := 142) (tgt := 144) rfl dX5_putAll_139 (by decide +kernel) (fun c139 => ?_) (fun c139 => ?_)
        · exact absurd c139 (by decide +kernel)
        · refine sw_iconst (pc' := 143) (v := 0) rfl dX5_putAll_142 (by decide +kernel) ?_
          refine sw_ret (v := some _) ⟨dX5_putAll_143, _, rfl, rfl⟩ ?_
          rw [opPutAll, onSh_k hk, pa_t qw]
          exact pm_x (tc_2 sAI) p136M p136A (zF.tr p136F (Nat.le_succ _)) (Nat.le_succ _)
      · refine sw_iconst (pc' := 132) (v := 1) rfl dX5_putAll_131 (by decide +kernel) ?_
        refine sw_goto (tgt := 136) dX5_putAll_132 (by decide +kernel) ?_
        refine sw_V (M' := MX5_isStopped) (d' := d - 1) (bc' := 0) (bs' := 0) (ci := 6) (as := [_, _, _]) dX5_putAll_136 w_1174 ok_X5_isStopped (q_isStopped (a := false) (b := true) (c := true) zM hA) zM.ob rfl (by omega) (Nat.le_of_ble_eq_true rfl) (Nat.zero_le _) (Nat.zero_le _) (fun E h' n' _ z => rp_x z) (rp_k (fun p136 p136ρ p136τ p136M p136A p136F => ?_))
        obtain ⟨Gp136, hGp136, eGp136⟩ := p136M.out
        show SW _ _ _ _ _ _ _ (.int 1 :: _) _ _ _
        refine sw_if_eq (pc' := 142) (tgt := 144) rfl dX5_putAll_139 (by decide +kernel) (fun c139 => ?_) (fun c139 => ?_)
        · exact absurd c139 (by decide +kernel)
        · refine sw_iconst (pc' := 143) (v := 0) rfl dX5_putAll_142 (by decide +kernel) ?_
          refine sw_ret (v := some _) ⟨dX5_putAll_143, _, rfl, rfl⟩ ?_
          rw [opPutAll, onSh_k hk, pa_t qw]
          exact pm_x (tc_2 sAI) p136M p136A (zF.tr p136F (Nat.le_succ _)) (Nat.le_succ _)
  rcases Classical.em (12 < nI (σ.2.1 k) + nI (cfN a b c e 0 4)) with qr | qr
  · have hroom : 12 < σ.2.1 k + (cfN a b c e 0 4) := (roomS hck (by omega)).mp qr
    refine sw_iconst (pc' := 1) (v := 4) rfl dX5_putAll_0 (by decide +kernel) ?_
    refine sw_newa (t := 0) (len := 4) (pc' := 3) rfl dX5_putAll_1 (by decide +kernel) w_101 rfl (by omega) (by omega) (by omega) ?_
    refine sw_nm (fun g11 eg11 => ?_)
    have zg11 := (congrFun eg11 n).trans (up_s (h := h) (i := n))
    refine sw_dup (pc' := 4) rfl dX5_putAll_3 rfl ?_
    refine sw_iconst (pc' := 5) (v := 0) rfl dX5_putAll_4 (by decide +kernel) ?_
    refine sw_iload_n (pc' := 6) rfl dX5_putAll_5 rfl ?_
    refine sw_iast (j := 0) (pc' := 7) rfl dX5_putAll_6 zg11 (by show 100 ≤ _; omega) rfl (by omega) (by omega) ?_
    refine sw_nm (fun g12 eg12 => ?_)
    have zg12 := (congrFun eg12 n).trans (up_s (h := g11) (i := n))
    refine sw_dup (pc' := 8) rfl dX5_putAll_7 rfl ?_
    refine sw_iconst (pc' := 9) (v := 1) rfl dX5_putAll_8 (by decide +kernel) ?_
    refine sw_iload_n (pc' := 10) rfl dX5_putAll_9 rfl ?_
    refine sw_iast (j := 1) (pc' := 11) rfl dX5_putAll_10 zg12 (by show 100 ≤ _; omega) rfl (by omega) (by omega) ?_
    refine sw_nm (fun g13 eg13 => ?_)
    have zg13 := (congrFun eg13 n).trans (up_s (h := g12) (i := n))
    refine sw_dup (pc' := 12) rfl dX5_putAll_11 rfl ?_
    refine sw_iconst (pc' := 13) (v := 2) rfl dX5_putAll_12 (by decide +kernel) ?_
    refine sw_iload (pc' := 15) rfl dX5_putAll_13 rfl ?_
    refine sw_iast (j := 2) (pc' := 16) rfl dX5_putAll_15 zg13 (by show 100 ≤ _; omega) rfl (by omega) (by omega) ?_
    refine sw_nm (fun g14 eg14 => ?_)
    have zg14 := (congrFun eg14 n).trans (up_s (h := g13) (i := n))
    refine sw_dup (pc' := 17) rfl dX5_putAll_16 rfl ?_
    refine sw_iconst (pc' := 18) (v := 3) rfl dX5_putAll_17 (by decide +kernel) ?_
    refine sw_iload (pc' := 20) rfl dX5_putAll_18 rfl ?_
    refine sw_iast (j := 3) (pc' := 21) rfl dX5_putAll_20 zg14 (by show 100 ≤ _; omega) rfl (by omega) (by omega) ?_
    refine sw_nm (fun g15 eg15 => ?_)
    have zg15 := (congrFun eg15 n).trans (up_s (h := g14) (i := n))
    refine sw_astore (pc' := 23) (lv' := [(6, _), (0, _), (1, _), (2, _), (3, _), (4, _), (5, _)]) rfl dX5_putAll_21 (by decide +kernel) rfl ?_
    refine sw_iconst (pc' := 24) (v := 0) rfl dX5_putAll_23 (by decide +kernel) ?_
    refine sw_istore (pc' := 26) (lv' := [(7, _), (6, _), (0, _), (1, _), (2, _), (3, _), (4, _), (5, _)]) rfl dX5_putAll_24 (by decide +kernel) rfl ?_
    refine sw_aload (pc' := 28) rfl dX5_putAll_26 rfl ?_
    refine sw_astore (pc' := 30) (lv' := [(8, _), (7, _), (6, _), (0, _), (1, _), (2, _), (3, _), (4, _), (5, _)]) rfl dX5_putAll_28 (by decide +kernel) rfl ?_
    refine sw_aload (pc' := 32) rfl dX5_putAll_30 rfl ?_
    refine sw_alen (pc' := 33) rfl dX5_putAll_32 zg15 (by decide +kernel) (Or.inl (by show 100 ≤ _; omega)) ?_
    refine sw_istore (pc' := 35) (lv' := [(9, _), (8, _), (7, _), (6, _), (0, _), (1, _), (2, _), (3, _), (4, _), (5, _)]) rfl dX5_putAll_33 (by decide +kernel) rfl ?_
    refine sw_iconst (pc' := 36) (v := 0) rfl dX5_putAll_35 (by decide +kernel) ?_
    refine sw_istore (pc' := 38) (lv' := [(10, _), (9, _), (8, _), (7, _), (6, _), (0, _), (1, _), (2, _), (3, _), (4, _), (5, _)]) rfl dX5_putAll_36 (by decide +kernel) rfl ?_
    have zM : MM g15 ρ τ σ th := hM.fr (fun i h1 h2 => (congrFun eg15 i).trans ((up_n (by omega)).trans ((congrFun eg14 i).trans ((up_n (by omega)).trans ((congrFun eg13 i).trans ((up_n (by omega)).trans ((congrFun eg12 i).trans ((up_n (by omega)).trans ((congrFun eg11 i).trans ((up_n (by omega)).trans (rfl)))))))))))
    have zF : FrM h g15 n := fun i q g => (congrFun eg15 i).trans ((up_n (by omega)).trans ((congrFun eg14 i).trans ((up_n (by omega)).trans ((congrFun eg13 i).trans ((up_n (by omega)).trans ((congrFun eg12 i).trans ((up_n (by omega)).trans ((congrFun eg11 i).trans ((up_n (by omega)).trans (rfl))))))))))
    obtain ⟨Gz, hGz, eGz⟩ := zM.out
    refine SW.pick [0, 3, 1, 2, 4, 5, 6, 7, 8, 9, 10] rfl (ql_pa1 zg15 (by omega) (by omega) 4 0 false rfl ?_)
    rw [Bool.false_or, wrB_cg (g := fun i => o4 (nI i) a b c e) (fun i _ hi => o4_up i (by omega))]
    rw [show wrB (fun i => o4 (nI i) a b c e) 0 4 = false from by cases g : wrB (fun i => o4 (nI i) a b c e) 0 4 with | true => exact absurd g qw | false => rfl]
    refine sw_iconst (pc' := 80) (v := 0) rfl dX5_putAll_79 (by decide +kernel) ?_
    refine sw_istore (pc' := 82) (lv' := [(8, _), (10, _), (7, _), (9, _), (6, _), (0, _), (1, _), (2, _), (3, _), (4, _), (5, _)]) rfl dX5_putAll_80 (by decide +kernel) rfl ?_
    refine SW.pick [0, 2, 4, 5, 6, 7, 8, 9, 10] rfl (ql_pa2 zg15 (by omega) (by omega) (fun i hi => o4_up i hi) 4 0 rfl ?_)
    refine sw_aload_n (pc' := 104) rfl dX5_putAll_103 rfl ?_
    refine sw_iload_n (pc' := 105) rfl dX5_putAll_104 rfl ?_
    refine sw_S (M' := MX5_isNone) (d' := d - 1) (bc' := 0) (bs' := 0) (as := [_]) dX5_putAll_105 w_1165 ok_X5_isNone (q_isNone (by omega)) (by omega) (Nat.le_of_ble_eq_true rfl) (Nat.zero_le _) (Nat.zero_le _) (fun E h' n' _ z => det_x z) (det_k ?_)
    rw [show inB (nI k) 0 10 = true from inB_k (N := 10) (by omega) (by decide +kernel)]
    show SW _ _ _ _ _ _ _ (.int 0 :: _) _ _ _
    refine sw_iload (pc' := 110) rfl dX5_putAll_108 rfl ?_
    refine sw_iload_n (pc' := 111) rfl dX5_putAll_110 rfl ?_
    refine sw_S (M' := MX5_isNone) (d' := d - 1) (bc' := 0) (bs' := 0) (as := [_]) dX5_putAll_111 w_1165 ok_X5_isNone (q_isNone (by omega)) (by omega) (Nat.le_of_ble_eq_true rfl) (Nat.zero_le _) (Nat.zero_le _) (fun E h' n' _ z => det_x z) (det_k ?_)
    rw [show inB (nI k) 0 10 = true from inB_k (N := 10) (by omega) (by decide +kernel)]
    show SW _ _ _ _ _ _ _ (.int 0 :: _) _ _ _
    refine sw_if_ne (pc' := 117) (tgt := 135) rfl dX5_putAll_114 (by decide +kernel) (fun c114 => ?_) (fun c114 => ?_)
    · exact absurd c114 (by decide +kernel)
    · refine sw_aload_n (pc' := 118) rfl dX5_putAll_117 rfl ?_
      refine sw_getf (ci := 6) (k := 4) (pc' := 121) rfl dX5_putAll_118 (by decide +kernel) w_1117 zM.ob rfl ?_
      refine sw_iload_n (pc' := 122) rfl dX5_putAll_121 rfl ?_
      refine sw_iald (j := k) (pc' := 123) rfl dX5_putAll_122 zM.sz rfl (by omega) (by decide +kernel) ?_
      refine sw_iload (pc' := 125) rfl dX5_putAll_123 rfl ?_
      refine sw_iadd (pc' := 126) rfl dX5_putAll_125 ?_
      rw [show (nI (σ.2.1 k)) + (nI (cfN a b c e 0 4)) = nI (σ.2.1 k + (cfN a b c e 0 4)) from nI_add _ _]
      refine sw_bipush (pc' := 128) (v := 12) rfl dX5_putAll_126 (by decide +kernel) ?_
      refine sw_icmp_le (pc' := 131) (tgt := 135) rfl dX5_putAll_128 (by decide +kernel) (fun c128 => ?_) (fun c128 => ?_)
      · exact absurd ((le12 (by omega)).mp c128) (by omega)
      · refine sw_iconst (pc' := 132) (v := 1) rfl dX5_putAll_131 (by decide +kernel) ?_
        refine sw_goto (tgt := 136) dX5_putAll_132 (by decide +kernel) ?_
        refine sw_V (M' := MX5_isStopped) (d' := d - 1) (bc' := 0) (bs' := 0) (ci := 6) (as := [_, _, _]) dX5_putAll_136 w_1174 ok_X5_isStopped (q_isStopped (a := false) (b := false) (c := true) zM hA) zM.ob rfl (by omega) (Nat.le_of_ble_eq_true rfl) (Nat.zero_le _) (Nat.zero_le _) (fun E h' n' _ z => rp_x z) (rp_k (fun p136 p136ρ p136τ p136M p136A p136F => ?_))
        obtain ⟨Gp136, hGp136, eGp136⟩ := p136M.out
        show SW _ _ _ _ _ _ _ (.int 1 :: _) _ _ _
        refine sw_if_eq (pc' := 142) (tgt := 144) rfl dX5_putAll_139 (by decide +kernel) (fun c139 => ?_) (fun c139 => ?_)
        · exact absurd c139 (by decide +kernel)
        · refine sw_iconst (pc' := 143) (v := 0) rfl dX5_putAll_142 (by decide +kernel) ?_
          refine sw_ret (v := some _) ⟨dX5_putAll_143, _, rfl, rfl⟩ ?_
          rw [opPutAll, onSh_k hk, pa_f (by cases g : wrB (fun i => o4 (nI i) a b c e) 0 4 with | true => exact absurd g qw | false => rfl), if_pos qr]
          exact pm_x (tc_3 sSI sSA) p136M p136A (zF.tr p136F (Nat.le_succ _)) (Nat.le_succ _)
  have hroom : σ.2.1 k + (cfN a b c e 0 4) ≤ 12 := Nat.le_of_not_lt (fun g => qr ((roomS hck (by omega)).mpr g))
  refine sw_iconst (pc' := 1) (v := 4) rfl dX5_putAll_0 (by decide +kernel) ?_
  refine sw_newa (t := 0) (len := 4) (pc' := 3) rfl dX5_putAll_1 (by decide +kernel) w_101 rfl (by omega) (by omega) (by omega) ?_
  refine sw_nm (fun g16 eg16 => ?_)
  have zg16 := (congrFun eg16 n).trans (up_s (h := h) (i := n))
  refine sw_dup (pc' := 4) rfl dX5_putAll_3 rfl ?_
  refine sw_iconst (pc' := 5) (v := 0) rfl dX5_putAll_4 (by decide +kernel) ?_
  refine sw_iload_n (pc' := 6) rfl dX5_putAll_5 rfl ?_
  refine sw_iast (j := 0) (pc' := 7) rfl dX5_putAll_6 zg16 (by show 100 ≤ _; omega) rfl (by omega) (by omega) ?_
  refine sw_nm (fun g17 eg17 => ?_)
  have zg17 := (congrFun eg17 n).trans (up_s (h := g16) (i := n))
  refine sw_dup (pc' := 8) rfl dX5_putAll_7 rfl ?_
  refine sw_iconst (pc' := 9) (v := 1) rfl dX5_putAll_8 (by decide +kernel) ?_
  refine sw_iload_n (pc' := 10) rfl dX5_putAll_9 rfl ?_
  refine sw_iast (j := 1) (pc' := 11) rfl dX5_putAll_10 zg17 (by show 100 ≤ _; omega) rfl (by omega) (by omega) ?_
  refine sw_nm (fun g18 eg18 => ?_)
  have zg18 := (congrFun eg18 n).trans (up_s (h := g17) (i := n))
  refine sw_dup (pc' := 12) rfl dX5_putAll_11 rfl ?_
  refine sw_iconst (pc' := 13) (v := 2) rfl dX5_putAll_12 (by decide +kernel) ?_
  refine sw_iload (pc' := 15) rfl dX5_putAll_13 rfl ?_
  refine sw_iast (j := 2) (pc' := 16) rfl dX5_putAll_15 zg18 (by show 100 ≤ _; omega) rfl (by omega) (by omega) ?_
  refine sw_nm (fun g19 eg19 => ?_)
  have zg19 := (congrFun eg19 n).trans (up_s (h := g18) (i := n))
  refine sw_dup (pc' := 17) rfl dX5_putAll_16 rfl ?_
  refine sw_iconst (pc' := 18) (v := 3) rfl dX5_putAll_17 (by decide +kernel) ?_
  refine sw_iload (pc' := 20) rfl dX5_putAll_18 rfl ?_
  refine sw_iast (j := 3) (pc' := 21) rfl dX5_putAll_20 zg19 (by show 100 ≤ _; omega) rfl (by omega) (by omega) ?_
  refine sw_nm (fun g20 eg20 => ?_)
  have zg20 := (congrFun eg20 n).trans (up_s (h := g19) (i := n))
  refine sw_astore (pc' := 23) (lv' := [(6, _), (0, _), (1, _), (2, _), (3, _), (4, _), (5, _)]) rfl dX5_putAll_21 (by decide +kernel) rfl ?_
  refine sw_iconst (pc' := 24) (v := 0) rfl dX5_putAll_23 (by decide +kernel) ?_
  refine sw_istore (pc' := 26) (lv' := [(7, _), (6, _), (0, _), (1, _), (2, _), (3, _), (4, _), (5, _)]) rfl dX5_putAll_24 (by decide +kernel) rfl ?_
  refine sw_aload (pc' := 28) rfl dX5_putAll_26 rfl ?_
  refine sw_astore (pc' := 30) (lv' := [(8, _), (7, _), (6, _), (0, _), (1, _), (2, _), (3, _), (4, _), (5, _)]) rfl dX5_putAll_28 (by decide +kernel) rfl ?_
  refine sw_aload (pc' := 32) rfl dX5_putAll_30 rfl ?_
  refine sw_alen (pc' := 33) rfl dX5_putAll_32 zg20 (by decide +kernel) (Or.inl (by show 100 ≤ _; omega)) ?_
  refine sw_istore (pc' := 35) (lv' := [(9, _), (8, _), (7, _), (6, _), (0, _), (1, _), (2, _), (3, _), (4, _), (5, _)]) rfl dX5_putAll_33 (by decide +kernel) rfl ?_
  refine sw_iconst (pc' := 36) (v := 0) rfl dX5_putAll_35 (by decide +kernel) ?_
  refine sw_istore (pc' := 38) (lv' := [(10, _), (9, _), (8, _), (7, _), (6, _), (0, _), (1, _), (2, _), (3, _), (4, _), (5, _)]) rfl dX5_putAll_36 (by decide +kernel) rfl ?_
  have zM : MM g20 ρ τ σ th := hM.fr (fun i h1 h2 => (congrFun eg20 i).trans ((up_n (by omega)).trans ((congrFun eg19 i).trans ((up_n (by omega)).trans ((congrFun eg18 i).trans ((up_n (by omega)).trans ((congrFun eg17 i).trans ((up_n (by omega)).trans ((congrFun eg16 i).trans ((up_n (by omega)).trans (rfl)))))))))))
  have zF : FrM h g20 n := fun i q g => (congrFun eg20 i).trans ((up_n (by omega)).trans ((congrFun eg19 i).trans ((up_n (by omega)).trans ((congrFun eg18 i).trans ((up_n (by omega)).trans ((congrFun eg17 i).trans ((up_n (by omega)).trans ((congrFun eg16 i).trans ((up_n (by omega)).trans (rfl))))))))))
  obtain ⟨Gz, hGz, eGz⟩ := zM.out
  refine SW.pick [0, 3, 1, 2, 4, 5, 6, 7, 8, 9, 10] rfl (ql_pa1 zg20 (by omega) (by omega) 4 0 false rfl ?_)
  rw [Bool.false_or, wrB_cg (g := fun i => o4 (nI i) a b c e) (fun i _ hi => o4_up i (by omega))]
  rw [show wrB (fun i => o4 (nI i) a b c e) 0 4 = false from by cases g : wrB (fun i => o4 (nI i) a b c e) 0 4 with | true => exact absurd g qw | false => rfl]
  refine sw_iconst (pc' := 80) (v := 0) rfl dX5_putAll_79 (by decide +kernel) ?_
  refine sw_istore (pc' := 82) (lv' := [(8, _), (10, _), (7, _), (9, _), (6, _), (0, _), (1, _), (2, _), (3, _), (4, _), (5, _)]) rfl dX5_putAll_80 (by decide +kernel) rfl ?_
  refine SW.pick [0, 2, 4, 5, 6, 7, 8, 9, 10] rfl (ql_pa2 zg20 (by omega) (by omega) (fun i hi => o4_up i hi) 4 0 rfl ?_)
  refine sw_aload_n (pc' := 104) rfl dX5_putAll_103 rfl ?_
  refine sw_iload_n (pc' := 105) rfl dX5_putAll_104 rfl ?_
  refine sw_S (M' := MX5_isNone) (d' := d - 1) (bc' := 0) (bs' := 0) (as := [_]) dX5_putAll_105 w_1165 ok_X5_isNone (q_isNone (by omega)) (by omega) (Nat.le_of_ble_eq_true rfl) (Nat.zero_le _) (Nat.zero_le _) (fun E h' n' _ z => det_x z) (det_k ?_)
  rw [show inB (nI k) 0 10 = true from inB_k (N := 10) (by omega) (by decide +kernel)]
  show SW _ _ _ _ _ _ _ (.int 0 :: _) _ _ _
  refine sw_iload (pc' := 110) rfl dX5_putAll_108 rfl ?_
  refine sw_iload_n (pc' := 111) rfl dX5_putAll_110 rfl ?_
  refine sw_S (M' := MX5_isNone) (d' := d - 1) (bc' := 0) (bs' := 0) (as := [_]) dX5_putAll_111 w_1165 ok_X5_isNone (q_isNone (by omega)) (by omega) (Nat.le_of_ble_eq_true rfl) (Nat.zero_le _) (Nat.zero_le _) (fun E h' n' _ z => det_x z) (det_k ?_)
  rw [show inB (nI k) 0 10 = true from inB_k (N := 10) (by omega) (by decide +kernel)]
  show SW _ _ _ _ _ _ _ (.int 0 :: _) _ _ _
  refine sw_if_ne (pc' := 117) (tgt := 135) rfl dX5_putAll_114 (by decide +kernel) (fun c114 => ?_) (fun c114 => ?_)
  · exact absurd c114 (by decide +kernel)
  · refine sw_aload_n (pc' := 118) rfl dX5_putAll_117 rfl ?_
    refine sw_getf (ci := 6) (k := 4) (pc' := 121) rfl dX5_putAll_118 (by decide +kernel) w_1117 zM.ob rfl ?_
    refine sw_iload_n (pc' := 122) rfl dX5_putAll_121 rfl ?_
    refine sw_iald (j := k) (pc' := 123) rfl dX5_putAll_122 zM.sz rfl (by omega) (by decide +kernel) ?_
    refine sw_iload (pc' := 125) rfl dX5_putAll_123 rfl ?_
    refine sw_iadd (pc' := 126) rfl dX5_putAll_125 ?_
    rw [show (nI (σ.2.1 k)) + (nI (cfN a b c e 0 4)) = nI (σ.2.1 k + (cfN a b c e 0 4)) from nI_add _ _]
    refine sw_bipush (pc' := 128) (v := 12) rfl dX5_putAll_126 (by decide +kernel) ?_
    refine sw_icmp_le (pc' := 131) (tgt := 135) rfl dX5_putAll_128 (by decide +kernel) (fun c128 => ?_) (fun c128 => ?_)
    · refine sw_iconst (pc' := 136) (v := 0) rfl dX5_putAll_135 (by decide +kernel) ?_
      refine sw_V (M' := MX5_isStopped) (d' := d - 1) (bc' := 0) (bs' := 0) (ci := 6) (as := [_, _, _]) dX5_putAll_136 w_1174 ok_X5_isStopped (q_isStopped (a := false) (b := false) (c := false) zM hA) zM.ob rfl (by omega) (Nat.le_of_ble_eq_true rfl) (Nat.zero_le _) (Nat.zero_le _) (fun E h' n' _ z => rp_x z) (rp_k (fun p136 p136ρ p136τ p136M p136A p136F => ?_))
      obtain ⟨Gp136, hGp136, eGp136⟩ := p136M.out
      show SW _ _ _ _ _ _ _ (.int 0 :: _) _ _ _
      refine sw_if_eq (pc' := 142) (tgt := 144) rfl dX5_putAll_139 (by decide +kernel) (fun c139 => ?_) (fun c139 => ?_)
      · refine sw_iload_n (pc' := 145) rfl dX5_putAll_144 rfl ?_
        refine sw_S (M' := MX5_isTable) (d' := d - 1) (bc' := 0) (bs' := 0) (as := [_]) dX5_putAll_145 w_1178 ok_X5_isTable (q_isTable) (by omega) (Nat.le_of_ble_eq_true rfl) (Nat.zero_le _) (Nat.zero_le _) (fun E h' n' _ z => det_x z) (det_k ?_)
        rw [tb_k (k := k) (by omega)]
        refine sw_istore (pc' := 150) (lv' := [(9, _), (8, _), (7, _), (6, _), (0, _), (1, _), (2, _), (3, _), (4, _), (5, _)]) rfl dX5_putAll_148 (by decide +kernel) rfl ?_
        refine sw_iconst (pc' := 151) (v := 0) rfl dX5_putAll_150 (by decide +kernel) ?_
        refine sw_istore (pc' := 153) (lv' := [(10, _), (9, _), (8, _), (7, _), (6, _), (0, _), (1, _), (2, _), (3, _), (4, _), (5, _)]) rfl dX5_putAll_151 (by decide +kernel) rfl ?_
        refine SW.pick [0, 1, 2, 4, 5, 6, 7, 8, 9, 10] rfl (ql_pa3 (s := 0) ((p136F n (Or.inr (by omega)) (by omega)).trans zg20) (by omega) (by omega) (fun i hi => o4_up i hi) hk (by omega) (cfN a b c e 0 4) 0 _ (by omega) ?_)
        refine sw_iload (pc' := 195) rfl dX5_putAll_193 rfl ?_
        refine sw_if_eq (pc' := 198) (tgt := 205) rfl dX5_putAll_195 (by decide +kernel) (fun c195 => ?_) (fun c195 => ?_)
        · refine sw_aload_n (pc' := 206) rfl dX5_putAll_205 rfl ?_
          refine sw_iload_n (pc' := 207) rfl dX5_putAll_206 rfl ?_
          refine sw_aload (pc' := 209) rfl dX5_putAll_207 rfl ?_
          refine sw_iload (pc' := 211) rfl dX5_putAll_209 rfl ?_
          refine sw_V (M' := MX5_comeAll) (d' := d - 1) (bc' := 0) (bs' := 0) (ci := 6) (as := [_, _, _]) dX5_putAll_211 w_1207 ok_X5_comeAll (q_comeAll p136M p136A (k := k) (m9 := (cfN a b c e 0 4)) hk (fun e => e ▸ hI.2.2.2.1) hroom (by omega) (by omega) ((p136F n (Or.inr (by omega)) (by omega)).trans zg20) (by decide +kernel) (by omega) (by omega)) p136M.ob rfl (by omega) (Nat.le_of_ble_eq_true rfl) (Nat.zero_le _) (Nat.zero_le _) (fun E h' n' _ z => rp_x z) (rp_k (fun p211 p211ρ p211τ p211M p211A p211F => ?_))
          obtain ⟨Gp211, hGp211, eGp211⟩ := p211M.out
          refine sw_ret (v := some _) ⟨dX5_putAll_214, _, rfl, rfl⟩ ?_
          have g := bI_0 c195
          have k5 : ¬ kdO k = 5 := fun e => by rw [decide_eq_true e, Bool.true_or] at g; cases g
          have tf : ¬ taB k a b c e 0 (cfN a b c e 0 4) = false := fun e => by rw [e, Bool.not_false, Bool.or_true] at g; cases g
          rw [opPutAll, onSh_k hk, pa_f (by cases g : wrB (fun i => o4 (nI i) a b c e) 0 4 with | true => exact absurd g qw | false => rfl), if_neg qr, if_neg k5, if_neg tf]
          rw [← caM_up (f := fun _ => 0) (by omega)]
          exact pm_k p211M p211A ((zF.tr p136F (Nat.le_succ _)).tr p211F (Nat.le_succ _)) (Nat.le_succ _)
        · refine sw_aload_n (pc' := 199) rfl dX5_putAll_198 rfl ?_
          refine sw_V (M' := MX5_no) (d' := d - 1) (bc' := 0) (bs' := 0) (ci := 6) (as := []) dX5_putAll_199 w_1184 ok_X5_no (q_no p136M p136A) p136M.ob rfl (by omega) (Nat.le_of_ble_eq_true rfl) (Nat.zero_le _) (Nat.zero_le _) (fun E h' n' _ z => rp_x z) (rp_k (fun p199 p199ρ p199τ p199M p199A p199F => ?_))
          obtain ⟨Gp199, hGp199, eGp199⟩ := p199M.out
          refine sw_goto (tgt := 214) dX5_putAll_202 (by decide +kernel) ?_
          refine sw_ret (v := some _) ⟨dX5_putAll_214, _, rfl, rfl⟩ ?_
          have g := bI_1 c195
          rw [opPutAll, onSh_k hk, pa_f (by cases g : wrB (fun i => o4 (nI i) a b c e) 0 4 with | true => exact absurd g qw | false => rfl), if_neg qr]
          by_cases k5 : kdO k = 5
          · rw [if_pos k5]
            exact pm_k p199M p199A ((zF.tr p136F (Nat.le_succ _)).tr p199F (Nat.le_succ _)) (Nat.le_succ _)
          have tf : taB k a b c e 0 (cfN a b c e 0 4) = false := by
            rw [decide_eq_false k5, Bool.false_or] at g
            simpa using g
          rw [if_neg k5, if_pos tf]
          exact pm_k p199M p199A ((zF.tr p136F (Nat.le_succ _)).tr p199F (Nat.le_succ _)) (Nat.le_succ _)
      · exact absurd c139 (by decide +kernel)
    · exact absurd ((le12 (by omega)).mpr (by omega)) c128
theorem ql_dg1 {d n0 B S9 : Nat} {h0 : AH} {ρ : Nat → Nat → Int32} {τ : Nat → Int32} {σ : CS} {Post : ARes → AH → Nat → Prop} (hA : AG ρ τ σ) (hI : Iv σ) (hd : 4 ≤ d) (hn0 : 158 ≤ n0) (m : Nat) : ∀ (j : Nat) (v : Int64) (bc bs n : Nat) (h : AH), j + m = 6 → (∀ (bc bs n : Nat) (h : AH), MM h ρ τ σ 0 → FrM h0 h n0 → n0 ≤ n → B ≤ bc → S9 ≤ bs → SW SR0 MX5_digest d bc bs 35 [(3, .int (nI 6)), (1, .long (dgN (fun x => hoV σ (nI x)) j m v)), (0, .ref 135)] [] h n Post) → MM h ρ τ σ 0 → FrM h0 h n0 → n0 ≤ n → B + m ≤ bc → S9 + 12 * m ≤ bs → SW SR0 MX5_digest d bc bs 11 [(3, .int (nI j)), (1, .long v), (0, .ref 135)] [] h n Post := by
  induction m with
  | zero =>
    intro j v bc bs n h hj fq hM hF hn hb1 hb2
    obtain ⟨G0, hG0, eG0⟩ := hM.out
    have hj6 : j = 6 := by omega
    subst hj6
    refine sw_iload_n (pc' := 12) rfl dX5_digest_11 rfl ?_
    refine sw_iconst (pc' := 13) (v := 5) rfl dX5_digest_12 (by decide +kernel) ?_
    refine sw_icmp_gt (pc' := 16) (tgt := 35) rfl dX5_digest_13 (by decide +kernel) (fun c13 => ?_) (fun c13 => ?_)
    · exact fq _ _ _ _ hM hF hn (by omega) (by omega)
    · exact absurd (show (5 : Int32) < nI 6 by decide +kernel) c13
  | succ m ih =>
    intro j v bc bs n h hj fq hM hF hn hb1 hb2
    obtain ⟨G0, hG0, eG0⟩ := hM.out
    rw [dgN] at fq
    refine sw_iload_n (pc' := 12) rfl dX5_digest_11 rfl ?_
    refine sw_iconst (pc' := 13) (v := 5) rfl dX5_digest_12 (by decide +kernel) ?_
    refine sw_icmp_gt (pc' := 16) (tgt := 35) rfl dX5_digest_13 (by decide +kernel) (fun c13 => ?_) (fun c13 => ?_)
    · exact absurd c13 (nI_nlt (a := 5) (by omega) (by decide +kernel))
    · refine sw_lload_n (pc' := 17) rfl dX5_digest_16 rfl ?_
      refine sw_ldc2 (pc' := 20) rfl dX5_digest_17 w_1484 ?_
      refine sw_lmul (pc' := 21) rfl dX5_digest_20 ?_
      refine sw_aload_n (pc' := 22) rfl dX5_digest_21 rfl ?_
      refine sw_iload_n (pc' := 23) rfl dX5_digest_22 rfl ?_
      refine sw_V (M' := MX5_houseTold) (d' := d - 1) (bc' := 1) (bs' := 12) (ci := 6) (as := [_]) dX5_digest_23 w_1467 ok_X5_houseTold (q_houseTold hM hA hI (X := j) (by omega) (by omega) (by omega) (by omega) (by omega)) hM.ob rfl (by omega) (Nat.le_of_ble_eq_true rfl) (by omega) (by omega) (fun E h' n' _ z => tp_x z) (tp_k (fun p n9 pk pF => ?_))
      have pM := hM.fr (fun i h1 h2 => pF i (by omega))
      refine sw_i2l (pc' := 27) rfl dX5_digest_26 ?_
      refine sw_ladd (pc' := 28) rfl dX5_digest_27 ?_
      refine sw_lstore_n (pc' := 29) (lv' := [(1, _), (3, _), (0, _)]) rfl dX5_digest_28 (by decide +kernel) rfl ?_
      refine sw_iinc (pc' := 32) (lv' := [(3, _), (1, _), (0, _)]) (v := nI (j + 1)) rfl dX5_digest_29 rfl (nI_1 j) (by decide +kernel) rfl ?_
      refine sw_goto (tgt := 11) dX5_digest_32 (by decide +kernel) ?_
      exact ih (j + 1) _ _ _ _ _ (by omega) fq pM (hF.tr (fun i _ g => pF i g) hn) (by omega) (by omega) (by omega)
theorem ql_dg2i {d bc bs n j : Nat} {h : AH} {ρ : Nat → Nat → Int32} {τ : Nat → Int32} {σ : CS} {Post : ARes → AH → Nat → Prop} (hM : MM h ρ τ σ 0) (hA : AG ρ τ σ) (hj : j < 11) (hc : σ.2.1 j ≤ 12) (m : Nat) : ∀ (i : Nat) (v : Int64), i + m = σ.2.1 j → SW SR0 MX5_digest d bc bs 94 [(4, .int (nI (σ.2.1 j))), (1, .long (dgN (σ.1 j) i m v)), (3, .int (nI j)), (0, .ref 135)] [] h n Post → SW SR0 MX5_digest d bc bs 60 [(4, .int (nI i)), (1, .long v), (3, .int (nI j)), (0, .ref 135)] [] h n Post := by
  obtain ⟨G0, hG0, eG0⟩ := hM.out
  induction m with
  | zero =>
    intro i v hi fq
    have hic : i = σ.2.1 j := by omega
    subst hic
    refine sw_iload (pc' := 62) rfl dX5_digest_60 rfl ?_
    refine sw_aload_n (pc' := 63) rfl dX5_digest_62 rfl ?_
    refine sw_getf (ci := 6) (k := 4) (pc' := 66) rfl dX5_digest_63 (by decide +kernel) w_1117 hM.ob rfl ?_
    refine sw_iload_n (pc' := 67) rfl dX5_digest_66 rfl ?_
    refine sw_iald (j := j) (pc' := 68) rfl dX5_digest_67 hM.sz rfl (by omega) (by decide +kernel) ?_
    refine sw_icmp_ge (pc' := 71) (tgt := 94) rfl dX5_digest_68 (by decide +kernel) (fun c68 => ?_) (fun c68 => ?_)
    · exact fq
    · exact absurd (Int32.le_refl _) c68
  | succ m ih =>
    intro i v hi fq
    rw [dgN] at fq
    refine sw_iload (pc' := 62) rfl dX5_digest_60 rfl ?_
    refine sw_aload_n (pc' := 63) rfl dX5_digest_62 rfl ?_
    refine sw_getf (ci := 6) (k := 4) (pc' := 66) rfl dX5_digest_63 (by decide +kernel) w_1117 hM.ob rfl ?_
    refine sw_iload_n (pc' := 67) rfl dX5_digest_66 rfl ?_
    refine sw_iald (j := j) (pc' := 68) rfl dX5_digest_67 hM.sz rfl (by omega) (by decide +kernel) ?_
    refine sw_icmp_ge (pc' := 71) (tgt := 94) rfl dX5_digest_68 (by decide +kernel) (fun c68 => ?_) (fun c68 => ?_)
    · exact absurd c68 (nI_ge (by omega) (by omega))
    · refine sw_lload_n (pc' := 72) rfl dX5_digest_71 rfl ?_
      refine sw_ldc2 (pc' := 75) rfl dX5_digest_72 w_1484 ?_
      refine sw_lmul (pc' := 76) rfl dX5_digest_75 ?_
      refine sw_aload_n (pc' := 77) rfl dX5_digest_76 rfl ?_
      refine sw_getf (ci := 6) (k := 3) (pc' := 80) rfl dX5_digest_77 (by decide +kernel) w_1116 hM.ob rfl ?_
      refine sw_iload_n (pc' := 81) rfl dX5_digest_80 rfl ?_
      refine sw_aald (j := j) (pc' := 82) rfl dX5_digest_81 hG0 (by decide +kernel) (by decide +kernel) rfl (by omega) (by decide +kernel) (eG0 j (by omega)) ?_
      refine sw_iload (pc' := 84) rfl dX5_digest_82 rfl ?_
      refine sw_iald (j := i) (pc' := 85) rfl dX5_digest_84 (hM.row (k := j) (by omega)) rfl (by omega) (by decide +kernel) ?_
      rw [hA.1 j (by omega) i (by omega)]
      refine sw_i2l (pc' := 86) rfl dX5_digest_85 ?_
      refine sw_ladd (pc' := 87) rfl dX5_digest_86 ?_
      refine sw_lstore_n (pc' := 88) (lv' := [(1, _), (4, _), (3, _), (0, _)]) rfl dX5_digest_87 (by decide +kernel) rfl ?_
      refine sw_iinc (pc' := 91) (lv' := [(4, _), (1, _), (3, _), (0, _)]) (v := nI (i + 1)) rfl dX5_digest_88 rfl (nI_1 i) (by decide +kernel) rfl ?_
      refine sw_goto (tgt := 60) dX5_digest_91 (by decide +kernel) ?_
      exact ih (i + 1) _ (by omega) fq
theorem ql_dg2 {d bc bs n : Nat} {h : AH} {ρ : Nat → Nat → Int32} {τ : Nat → Int32} {σ : CS} {Post : ARes → AH → Nat → Prop} (hM : MM h ρ τ σ 0) (hA : AG ρ τ σ) (hI : Iv σ) (m : Nat) : ∀ (j : Nat) (v : Int64), j + m = 11 → SW SR0 MX5_digest d bc bs 100 [(3, .int (nI 11)), (1, .long (dgS σ j m v)), (0, .ref 135)] [] h n Post → SW SR0 MX5_digest d bc bs 37 [(3, .int (nI j)), (1, .long v), (0, .ref 135)] [] h n Post := by
  obtain ⟨G0, hG0, eG0⟩ := hM.out
  induction m with
  | zero =>
    intro j v hj fq
    have hj11 : j = 11 := by omega
    subst hj11
    refine sw_iload_n (pc' := 38) rfl dX5_digest_37 rfl ?_
    refine sw_bipush (pc' := 40) (v := 11) rfl dX5_digest_38 (by decide +kernel) ?_
    refine sw_icmp_ge (pc' := 43) (tgt := 100) rfl dX5_digest_40 (by decide +kernel) (fun c40 => ?_) (fun c40 => ?_)
    · exact fq
    · exact absurd (Int32.le_refl (nI 11)) c40
  | succ m ih =>
    intro j v hj fq
    rw [dgS] at fq
    have hc := hI.1 j (by omega)
    refine sw_iload_n (pc' := 38) rfl dX5_digest_37 rfl ?_
    refine sw_bipush (pc' := 40) (v := 11) rfl dX5_digest_38 (by decide +kernel) ?_
    refine sw_icmp_ge (pc' := 43) (tgt := 100) rfl dX5_digest_40 (by decide +kernel) (fun c40 => ?_) (fun c40 => ?_)
    · exact absurd c40 (nI_ge (b := 11) (by omega) (by decide +kernel))
    · refine sw_lload_n (pc' := 44) rfl dX5_digest_43 rfl ?_
      refine sw_ldc2 (pc' := 47) rfl dX5_digest_44 w_1484 ?_
      refine sw_lmul (pc' := 48) rfl dX5_digest_47 ?_
      refine sw_aload_n (pc' := 49) rfl dX5_digest_48 rfl ?_
      refine sw_getf (ci := 6) (k := 4) (pc' := 52) rfl dX5_digest_49 (by decide +kernel) w_1117 hM.ob rfl ?_
      refine sw_iload_n (pc' := 53) rfl dX5_digest_52 rfl ?_
      refine sw_iald (j := j) (pc' := 54) rfl dX5_digest_53 hM.sz rfl (by omega) (by decide +kernel) ?_
      refine sw_i2l (pc' := 55) rfl dX5_digest_54 ?_
      refine sw_ladd (pc' := 56) rfl dX5_digest_55 ?_
      refine sw_lstore_n (pc' := 57) (lv' := [(1, _), (3, _), (0, _)]) rfl dX5_digest_56 (by decide +kernel) rfl ?_
      refine sw_iconst (pc' := 58) (v := 0) rfl dX5_digest_57 (by decide +kernel) ?_
      refine sw_istore (pc' := 60) (lv' := [(4, _), (1, _), (3, _), (0, _)]) rfl dX5_digest_58 (by decide +kernel) rfl ?_
      refine SW.pick [0, 1, 2, 3] rfl (ql_dg2i hM hA (j := j) (by omega) hc (σ.2.1 j) 0 _ (by omega) ?_)
      refine sw_iinc (pc' := 97) (lv' := [(3, _), (4, _), (1, _), (0, _)]) (v := nI (j + 1)) rfl dX5_digest_94 rfl (nI_1 j) (by decide +kernel) rfl ?_
      refine sw_goto (tgt := 37) dX5_digest_97 (by decide +kernel) ?_
      exact SW.pick [0, 2, 3] rfl (ih (j + 1) _ (by omega) fq)
theorem ql_dg3i {d n0 B S9 j : Nat} {h0 : AH} {ρ : Nat → Nat → Int32} {τ : Nat → Int32} {σ : CS} {Post : ARes → AH → Nat → Prop} (hA : AG ρ τ σ) (hI : Iv σ) (hd : 4 ≤ d) (hn0 : 158 ≤ n0) (hj : j < 6) (m : Nat) : ∀ (i : Nat) (v : Int64) (bc bs n : Nat) (h : AH), i + m = 4 → (∀ (bc bs n : Nat) (h : AH), MM h ρ τ σ 0 → FrM h0 h n0 → n0 ≤ n → B ≤ bc → S9 ≤ bs → SW SR0 MX5_digest d bc bs 138 [(4, .int (nI 4)), (1, .long (dgN (fun x => owV σ j (nI x)) i m v)), (3, .int (nI j)), (0, .ref 135)] [] h n Post) → MM h ρ τ σ 0 → FrM h0 h n0 → n0 ≤ n → B + m ≤ bc → S9 + 12 * m ≤ bs → SW SR0 MX5_digest d bc bs 111 [(4, .int (nI i)), (1, .long v), (3, .int (nI j)), (0, .ref 135)] [] h n Post := by
  induction m with
  | zero =>
    intro i v bc bs n h hi fq hM hF hn hb1 hb2
    obtain ⟨G0, hG0, eG0⟩ := hM.out
    have hi4 : i = 4 := by omega
    subst hi4
    refine sw_iload (pc' := 113) rfl dX5_digest_111 rfl ?_
    refine sw_iconst (pc' := 114) (v := 3) rfl dX5_digest_113 (by decide +kernel) ?_
    refine sw_icmp_gt (pc' := 117) (tgt := 138) rfl dX5_digest_114 (by decide +kernel) (fun c114 => ?_) (fun c114 => ?_)
    · exact fq _ _ _ _ hM hF hn (by omega) (by omega)
    · exact absurd (show (3 : Int32) < nI 4 by decide +kernel) c114
  | succ m ih =>
    intro i v bc bs n h hi fq hM hF hn hb1 hb2
    obtain ⟨G0, hG0, eG0⟩ := hM.out
    rw [dgN] at fq
    refine sw_iload (pc' := 113) rfl dX5_digest_111 rfl ?_
    refine sw_iconst (pc' := 114) (v := 3) rfl dX5_digest_113 (by decide +kernel) ?_
    refine sw_icmp_gt (pc' := 117) (tgt := 138) rfl dX5_digest_114 (by decide +kernel) (fun c114 => ?_) (fun c114 => ?_)
    · exact absurd c114 (nI_nlt (a := 3) (by omega) (by decide +kernel))
    · refine sw_lload_n (pc' := 118) rfl dX5_digest_117 rfl ?_
      refine sw_ldc2 (pc' := 121) rfl dX5_digest_118 w_1484 ?_
      refine sw_lmul (pc' := 122) rfl dX5_digest_121 ?_
      refine sw_aload_n (pc' := 123) rfl dX5_digest_122 rfl ?_
      refine sw_iload_n (pc' := 124) rfl dX5_digest_123 rfl ?_
      refine sw_iload (pc' := 126) rfl dX5_digest_124 rfl ?_
      refine sw_V (M' := MX5_told) (d' := d - 1) (bc' := 1) (bs' := 12) (ci := 6) (as := [_, _]) dX5_digest_126 w_1459 ok_X5_told (q_told hM (k := j) (X := i) (by omega) (hI.2.2.2.2.2.2.1 j (by omega)) (by omega) (by omega) (by omega) (by omega) (by omega)) hM.ob rfl (by omega) (Nat.le_of_ble_eq_true rfl) (by omega) (by omega) (fun E h' n' _ z => tp_x z) (tp_k (fun p n9 pk pF => ?_))
      have pM := hM.fr (fun i h1 h2 => pF i (by omega))
      refine sw_i2l (pc' := 130) rfl dX5_digest_129 ?_
      refine sw_ladd (pc' := 131) rfl dX5_digest_130 ?_
      refine sw_lstore_n (pc' := 132) (lv' := [(1, _), (4, _), (3, _), (0, _)]) rfl dX5_digest_131 (by decide +kernel) rfl ?_
      refine sw_iinc (pc' := 135) (lv' := [(4, _), (1, _), (3, _), (0, _)]) (v := nI (i + 1)) rfl dX5_digest_132 rfl (nI_1 i) (by decide +kernel) rfl ?_
      refine sw_goto (tgt := 111) dX5_digest_135 (by decide +kernel) ?_
      exact ih (i + 1) _ _ _ _ _ (by omega) fq pM (hF.tr (fun i _ g => pF i g) hn) (by omega) (by omega) (by omega)
theorem ql_dg3 {d n0 : Nat} {h0 : AH} {ρ : Nat → Nat → Int32} {τ : Nat → Int32} {σ : CS} {Post : ARes → AH → Nat → Prop} (hA : AG ρ τ σ) (hI : Iv σ) (hd : 4 ≤ d) (hn0 : 158 ≤ n0) (m : Nat) : ∀ (j : Nat) (v : Int64) (bc bs n : Nat) (h : AH), j + m = 6 → (∀ (bc bs n : Nat) (h : AH), MM h ρ τ σ 0 → FrM h0 h n0 → n0 ≤ n → SW SR0 MX5_digest d bc bs 144 [(3, .int (nI 6)), (1, .long (dgW σ j m v)), (0, .ref 135)] [] h n Post) → MM h ρ τ σ 0 → FrM h0 h n0 → n0 ≤ n → 4 * m ≤ bc → 48 * m ≤ bs → SW SR0 MX5_digest d bc bs 102 [(3, .int (nI j)), (1, .long v), (0, .ref 135)] [] h n Post := by
  induction m with
  | zero =>
    intro j v bc bs n h hj fq hM hF hn hb1 hb2
    obtain ⟨G0, hG0, eG0⟩ := hM.out
    have hj6 : j = 6 := by omega
    subst hj6
    refine sw_iload_n (pc' := 103) rfl dX5_digest_102 rfl ?_
    refine sw_bipush (pc' := 105) (v := 6) rfl dX5_digest_103 (by decide +kernel) ?_
    refine sw_icmp_ge (pc' := 108) (tgt := 144) rfl dX5_digest_105 (by decide +kernel) (fun c105 => ?_) (fun c105 => ?_)
    · exact fq _ _ _ _ hM hF hn
    · exact absurd (Int32.le_refl (nI 6)) c105
  | succ m ih =>
    intro j v bc bs n h hj fq hM hF hn hb1 hb2
    obtain ⟨G0, hG0, eG0⟩ := hM.out
    rw [dgW] at fq
    refine sw_iload_n (pc' := 103) rfl dX5_digest_102 rfl ?_
    refine sw_bipush (pc' := 105) (v := 6) rfl dX5_digest_103 (by decide +kernel) ?_
    refine sw_icmp_ge (pc' := 108) (tgt := 144) rfl dX5_digest_105 (by decide +kernel) (fun c105 => ?_) (fun c105 => ?_)
    · exact absurd c105 (nI_ge (b := 6) (by omega) (by decide +kernel))
    · refine sw_iconst (pc' := 109) (v := 0) rfl dX5_digest_108 (by decide +kernel) ?_
      refine sw_istore (pc' := 111) (lv' := [(4, _), (3, _), (1, _), (0, _)]) rfl dX5_digest_109 (by decide +kernel) rfl ?_
      refine SW.pick [0, 2, 1, 3] rfl (ql_dg3i (B := 4 * m) (S9 := 48 * m) hA hI hd hn0 (j := j) (by omega) 4 0 _ _ _ _ _ rfl (fun bc bs n h hM hF hn hb1 hb2 => ?_) hM hF hn (by omega) (by omega))
      obtain ⟨G0, hG0, eG0⟩ := hM.out
      refine sw_iinc (pc' := 141) (lv' := [(3, _), (4, _), (1, _), (0, _)]) (v := nI (j + 1)) rfl dX5_digest_138 rfl (nI_1 j) (by decide +kernel) rfl ?_
      refine sw_goto (tgt := 102) dX5_digest_141 (by decide +kernel) ?_
      exact SW.pick [0, 2, 3] rfl (ih (j + 1) _ _ _ _ _ (by omega) fq hM hF hn (by omega) (by omega))
/-- the long that it answers -/
def DP (h : AH) (n : Nat) (σ : CS) : ARes → AH → Nat → Prop := fun r' h' n' => r' = .inl (some (.long (dgZ σ))) ∧ n ≤ n' ∧ RMo h' σ 0 ∧ FrM h h' n
theorem q_digest {h : AH} {d bc bs n : Nat} {σ : CS} {th : Int32} (hR : RMo h σ th) (hI : Iv σ) (hs : snB σ = true) (hn : 159 ≤ n) (hd : 6 ≤ d) (h1 : 40 ≤ bc) (h2 : 400 ≤ bs) : SM SR0 MX5_digest d bc bs [.ref 135] h n (DP h n σ) := by
  obtain ⟨ρ, τ, hM, hA⟩ := hR
  obtain ⟨G0, hG0, eG0⟩ := hM.out
  refine sm_of pn_OverwalksModel rfl (Nat.le_of_ble_eq_true rfl) ?_
  refine sw_aload_n (pc' := 1) rfl dX5_digest_0 rfl ?_
  refine sw_iconst (pc' := 2) (v := 0) rfl dX5_digest_1 (by decide +kernel) ?_
  refine sw_putf (ci := 6) (k := 0) (pc' := 5) rfl dX5_digest_2 (by decide +kernel) (by decide +kernel) w_1113 rfl hM.ob (by decide +kernel) (Nat.le_of_ble_eq_true rfl) rfl rfl ?_
  refine sw_nm (fun g1 eg1 => ?_)
  have zg1 := (congrFun eg1 135).trans (up_s (h := h) (i := 135))
  refine sw_ldc2 (pc' := 8) rfl dX5_digest_5 w_1483 ?_
  refine sw_lstore_n (pc' := 9) (lv' := [(1, _), (0, _)]) rfl dX5_digest_8 (by decide +kernel) rfl ?_
  refine sw_iconst (pc' := 10) (v := 0) rfl dX5_digest_9 (by decide +kernel) ?_
  refine sw_istore_n (pc' := 11) (lv' := [(3, _), (1, _), (0, _)]) rfl dX5_digest_10 (by decide +kernel) rfl ?_
  have nM : MM g1 ρ τ σ 0 := hM.obU (τ' := σ) (t := 0) zg1 (fun i h1 => (congrFun eg1 i).trans ((up_n h1).trans (rfl))) rfl rfl rfl rfl
  have nF : FrM h g1 n := FrM.of1 (fun i q => (congrFun eg1 i).trans ((up_n (by omega)).trans (rfl)))
  refine SW.pick [0, 1, 2] rfl (ql_dg1 (B := 24) (S9 := 288) hA hI (by omega) (by omega) 6 0 _ _ _ _ _ rfl (fun bc bs m h' hM hF hn' hb1 hb2 => ?_) nM nF (Nat.le_refl _) (by omega) (by omega))
  obtain ⟨G0, hG0, eG0⟩ := hM.out
  refine sw_iconst (pc' := 36) (v := 0) rfl dX5_digest_35 (by decide +kernel) ?_
  refine sw_istore_n (pc' := 37) (lv' := [(3, _), (1, _), (0, _)]) rfl dX5_digest_36 (by decide +kernel) rfl ?_
  refine SW.pick [0, 1, 2] rfl (ql_dg2 hM hA hI 11 0 _ rfl ?_)
  refine sw_iconst (pc' := 101) (v := 0) rfl dX5_digest_100 (by decide +kernel) ?_
  refine sw_istore_n (pc' := 102) (lv' := [(3, _), (1, _), (0, _)]) rfl dX5_digest_101 (by decide +kernel) rfl ?_
  refine SW.pick [0, 1, 2] rfl (ql_dg3 hA hI (by omega) (n0 := n) (h0 := h) (by omega) 6 0 _ _ _ _ _ rfl (fun bc bs m h' hM hF hn' => ?_) hM hF hn' (by omega) (by omega))
  obtain ⟨G0, hG0, eG0⟩ := hM.out
  refine sw_lload_n (pc' := 145) rfl dX5_digest_144 rfl ?_
  refine sw_ldc2 (pc' := 148) rfl dX5_digest_145 w_1484 ?_
  refine sw_lmul (pc' := 149) rfl dX5_digest_148 ?_
  refine sw_lconst (pc' := 150) (v := 1) rfl dX5_digest_149 (by decide +kernel) ?_
  refine sw_ladd (pc' := 151) rfl dX5_digest_150 ?_
  refine sw_ret (v := some _) ⟨dX5_digest_151, rfl⟩ ?_
  exact ⟨by rw [dgZ, hs]; rfl, hn', ⟨_, _, hM, hA⟩, hF⟩
end
