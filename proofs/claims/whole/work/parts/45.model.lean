/-! the model: what is asked of rows; turn, rotate, pour -/
theorem rem100 {x : Int32} (h : 0 ≤ x ∧ x ≤ 100) : x - x / 100 * 100 = if x = 100 then 0 else x := by
  obtain ⟨a, ha, rfl⟩ := nI_of2 (M := 100) (n := 100) (by decide +kernel) (Int32.not_lt.mpr h.1) h.2
  have e := pk_rem (a := a) (d := 100) (by omega) (by decide +kernel) (by decide +kernel)
  have e2 : nI a - nI a / 100 * 100 = nI (a % 100) := e
  rw [e2]
  by_cases q : a = 100
  · subst q; rfl
  · rw [if_neg (show ¬ nI a = 100 from fun g => q ((nI_eq (b := 100) (by omega) (by decide +kernel)).mp g)), Nat.mod_eq_of_lt (by omega)]
/-- the last of the first j places, or else what was found before -/
def fnd (f : Nat → Int32) (x : Int32) (c j : Nat) : Int32 := match lpN f x j with
  | some i => nI i
  | none => opI (fpN f x 0 c)
theorem fnd_0 {f : Nat → Int32} {x : Int32} {c : Nat} : fnd f x c 0 = opI (fpN f x 0 c) := rfl
theorem fnd_s {f : Nat → Int32} {x : Int32} {c j : Nat} : fnd f x c (j + 1) = if f j = x then nI j else fnd f x c j := by
  unfold fnd
  show (match (if f j = x then some j else lpN f x j) with | some i => nI i | none => _) = _
  by_cases e : f j = x
  · rw [if_pos e, if_pos e]
  · rw [if_neg e, if_neg e]
theorem lpN_none {f : Nat → Int32} {x : Int32} {m : Nat} (h : lpN f x m = none) : ∀ i, i < m → f i ≠ x := by
  induction m with
  | zero => intro i hi; omega
  | succ m ih =>
    intro i hi
    unfold lpN at h
    by_cases e : f m = x
    · rw [if_pos e] at h; cases h
    · rw [if_neg e] at h
      by_cases g : i = m
      · rw [g]; exact e
      · exact ih h i (by omega)
theorem fnd_c {f : Nat → Int32} {x : Int32} {c : Nat} : fnd f x c c = opI (lpN f x c) := by
  unfold fnd
  cases e : lpN f x c with
  | some i => rfl
  | none => exact congrArg opI (fpN_none.mpr (fun i _ hi => lpN_none e i (by omega)))
theorem tk100 {k : Nat} : tkB k 100 = kN (kdO k) := rfl
theorem nnB_f1 {σ : CS} {k l : Nat} (h : (fpN (σ.1 k) 100 0 (σ.2.1 k)).isSome = false) : nnB σ k l = false := by unfold nnB; rw [h]; rfl
theorem nnB_f2 {σ : CS} {k l : Nat} (h : kN (kdO l) = true) : nnB σ k l = false := by unfold nnB; rw [tk100, h, Bool.not_true, Bool.and_false]
theorem nnB_t {σ : CS} {k l : Nat} (h : (fpN (σ.1 k) 100 0 (σ.2.1 k)).isSome = true) (g : kN (kdO l) = false) : nnB σ k l = true := by unfold nnB; rw [h, tk100, g]; rfl
theorem rv_at {f : Nat → Int32} {c : Nat} : ∀ j, j < c → f (c - 1 - j) = rvN f 0 (0 + c) j := by
  intro j hj
  unfold rvN
  rw [if_pos ⟨Nat.zero_le _, by omega⟩]
  exact congrArg f (by omega)
/-- where the j-th goes, y places on -/
def wrN (y c j : Nat) : Nat := if j + y < c then j + y else j + y - c
theorem wrN_lt {y c j : Nat} (hy : y < c) (hj : j < c) : wrN y c j < c := by unfold wrN; split <;> omega
theorem wrN_inj {y c i j : Nat} (hy : y < c) (hi : i < c) (hj : j < c) (h : wrN y c i = wrN y c j) : i = j := by unfold wrN at h; split at h <;> split at h <;> omega
theorem mvO_wr {f : Nat → Int32} {c y j : Nat} (hy : y < c) (hj : j < c) : mvO f c y (wrN y c j) = f j := by
  unfold mvO
  by_cases e : j + y < c
  · rw [show wrN y c j = j + y from if_pos e]
    have e1 : rvN (rvN (rvN f 0 (0 + c)) 0 (0 + y)) y (y + (c - y)) (j + y) = rvN (rvN f 0 (0 + c)) 0 (0 + y) (y + (y + (c - y)) - 1 - (j + y)) := if_pos ⟨by omega, by omega⟩
    have e2 : rvN (rvN f 0 (0 + c)) 0 (0 + y) (y + (y + (c - y)) - 1 - (j + y)) = rvN f 0 (0 + c) (y + (y + (c - y)) - 1 - (j + y)) := if_neg (fun q => by omega)
    have e3 : rvN f 0 (0 + c) (y + (y + (c - y)) - 1 - (j + y)) = f (0 + (0 + c) - 1 - (y + (y + (c - y)) - 1 - (j + y))) := if_pos ⟨Nat.zero_le _, by omega⟩
    rw [e1, e2, e3]
    exact congrArg f (by omega)
  · rw [show wrN y c j = j + y - c from if_neg e]
    have e1 : rvN (rvN (rvN f 0 (0 + c)) 0 (0 + y)) y (y + (c - y)) (j + y - c) = rvN (rvN f 0 (0 + c)) 0 (0 + y) (j + y - c) := if_neg (fun q => by omega)
    have e2 : rvN (rvN f 0 (0 + c)) 0 (0 + y) (j + y - c) = rvN f 0 (0 + c) (0 + (0 + y) - 1 - (j + y - c)) := if_pos ⟨Nat.zero_le _, by omega⟩
    have e3 : rvN f 0 (0 + c) (0 + (0 + y) - 1 - (j + y - c)) = f (0 + (0 + c) - 1 - (0 + (0 + y) - 1 - (j + y - c))) := if_pos ⟨Nat.zero_le _, by omega⟩
    rw [e1, e2, e3]
    exact congrArg f (by omega)
/-- each place is somebody's -/
theorem wrN_sur {y c q : Nat} (hy : y < c) (hq : q < c) : ∃ j, j < c ∧ wrN y c j = q := by
  by_cases e : q < y
  · exact ⟨c - y + q, by omega, by unfold wrN; rw [if_neg (by omega)]; omega⟩
  · exact ⟨q - y, by omega, by unfold wrN; rw [if_pos (by omega)]; omega⟩
def rotOK (c b : Nat) : Bool := decide ((fmI (nI b - 20) (nI c)).toNatClampNeg < c) && (decide (fmI (nI b - 20) (nI c) = nI (fmI (nI b - 20) (nI c)).toNatClampNeg) && (List.range c).all (fun j =>
  decide ((nI j + (nI b - 20)) - (nI j + (nI b - 20)) / nI c * nI c + nI c - ((nI j + (nI b - 20)) - (nI j + (nI b - 20)) / nI c * nI c + nI c) / nI c * nI c = nI (wrN (fmI (nI b - 20) (nI c)).toNatClampNeg c j))))
theorem rot_all : (List.range 13).all (fun c => decide (c = 0) || (List.range 41).all (fun b => rotOK c b)) = true := by decide +kernel
theorem by20 {x : Int32} (q : ¬ (x < -20 ∨ 20 < x)) : ∃ b, b < 41 ∧ x = nI b - 20 := by
  have h1 : -20 ≤ x := Int32.not_lt.mp (fun g => q (Or.inl g))
  have h2 : x ≤ 20 := Int32.not_lt.mp (fun g => q (Or.inr g))
  have t1 : (-20 : Int) ≤ x.toInt := Int32.le_iff_toInt_le.mp h1
  have t2 : x.toInt ≤ 20 := Int32.le_iff_toInt_le.mp h2
  refine ⟨(x.toInt + 20).toNat, by omega, ?_⟩
  apply Int32.toInt_inj.mp
  rw [Int32.toInt_sub, nI_toInt (by omega)]
  show x.toInt = ((((x.toInt + 20).toNat : Nat) : Int) - 20).bmod (2 ^ 32)
  rw [Int.toNat_of_nonneg (by omega), Int.add_sub_cancel, Int.bmod_eq_of_le (by omega) (by omega)]
theorem rot_k {x : Int32} {c : Nat} (q : ¬ (x < -20 ∨ 20 < x)) (h0 : 0 < c) (hc : c ≤ 12) : (fmI x (nI c)).toNatClampNeg < c ∧ ∀ j, j < c → (nI j + x) - (nI j + x) / nI c * nI c + nI c - ((nI j + x) - (nI j + x) / nI c * nI c + nI c) / nI c * nI c = nI (wrN (fmI x (nI c)).toNatClampNeg c j) := by
  obtain ⟨b, hb, rfl⟩ := by20 q
  have h := List.all_eq_true.mp rot_all c (List.mem_range.mpr (by omega))
  rw [decide_eq_false (by omega), Bool.false_or] at h
  have h2 := List.all_eq_true.mp h b (List.mem_range.mpr hb)
  unfold rotOK at h2
  rw [Bool.and_eq_true, Bool.and_eq_true] at h2
  exact ⟨of_decide_eq_true h2.1, fun j hj => of_decide_eq_true (List.all_eq_true.mp h2.2.2 j (List.mem_range.mpr hj))⟩
theorem fpN_eq_some {f : Nat → Int32} {x : Int32} {c i : Nat} (hi : i < c) (h : f i = x) : (fpN f x 0 c).isSome = true := by
  cases e : (fpN f x 0 c).isSome with
  | true => rfl
  | false => exact absurd h (fpN_isS e i hi)
/-- pouring, in the class's words and in the model's -/
theorem pb_ca {s j c : Nat} {f : Nat → Int32} (hs : s < 11) (hj : j < 11) (i0 : Nat) (m : Nat) : ∀ (t : Nat) (w : Bool) (σ : CS), (∀ q, q < c → σ.1 s q = f q) → c ≤ σ.2.1 s → σ.2.1 s ≤ 12 → σ.2.1 j + m ≤ 12 → i0 + t + m ≤ c → pbM s j (i0 + t) m w σ = caM j (fun q => f (i0 + q)) t m w σ := by
  induction m with
  | zero => intro t w σ _ _ _ _ _; rfl
  | succ m ih =>
    intro t w σ h1 h2 h3 h4 h5
    have e : taI (σ.1 s) (σ.2.1 s) (nI (i0 + t)) = f (i0 + t) := (taI_in (by omega) h3).trans (h1 _ (by omega))
    unfold pbM caM
    rw [e]
    have hu := ldU_c2 (σ := σ) (k := j) (x := f (i0 + t))
    refine ih (t + 1) _ _ ?_ ?_ ?_ (by omega) (by omega)
    · intro q hq
      by_cases g : s = j
      · subst g
        unfold ldU
        by_cases y : ldY (σ.1 s) (σ.2.1 s) (kdO s) (f (i0 + t)) = true
        · rw [if_pos y]
          show up σ.1 s _ s q = _
          rw [up_s]
          have hp : ¬ kdO s = 2 := by
            intro k2
            unfold ldY at y
            rw [k2, fpN_eq_some (f := σ.1 s) (x := f (i0 + t)) (c := σ.2.1 s) (i := i0 + t) (by omega) (h1 _ (by omega))] at y
            exact absurd y (by decide +kernel)
          rw [show ldP (σ.1 s) (σ.2.1 s) (kdO s) (f (i0 + t)) = σ.2.1 s from if_neg hp, laN_lt (by omega)]
          exact h1 q hq
        · rw [if_neg y]; exact h1 q hq
      · rw [(ldU_o (σ := σ) (k := j) (x := f (i0 + t)) g).1]; exact h1 q hq
    · by_cases g : s = j
      · subst g
        unfold ldU
        split
        · show c ≤ up σ.2.1 s _ s
          rw [up_s]; omega
        · exact h2
      · rw [(ldU_o (σ := σ) (k := j) (x := f (i0 + t)) g).2.1]; exact h2
    · by_cases g : s = j
      · subst g; omega
      · rw [(ldU_o (σ := σ) (k := j) (x := f (i0 + t)) g).2.1]; exact h3

theorem ql_code {h : AH} {d bc bs n : Nat} {ρ : Nat → Nat → Int32} {τ : Nat → Int32} {σ : CS} {th : Int32} {Post : ARes → AH → Nat → Prop} (hM : MM h ρ τ σ th) (hA : AG ρ τ σ) {k : Nat} (hk : k < 11) (hc : σ.2.1 k ≤ 12) (ht : ∀ j, j < σ.2.1 k → 0 ≤ σ.1 k j ∧ σ.1 k j ≤ 100) (m : Nat) : ∀ (j : Nat) (v : Int32), j + m = σ.2.1 k → Post (.inl (some (.int (cdN (σ.1 k) j m v)))) h n → SW SR0 MX5_code d bc bs 17 [(3, .int (nI j)), (2, .int v), (0, .ref 135), (1, .int (nI k))] [] h n Post := by
  obtain ⟨G0, hG0, eG0⟩ := hM.out
  induction m with
  | zero =>
    intro j v hj fq
    have hjc : j = σ.2.1 k := by omega
    subst hjc
    refine sw_iload_n (pc' := 18) rfl dX5_code_17 rfl ?_
    refine sw_aload_n (pc' := 19) rfl dX5_code_18 rfl ?_
    refine sw_getf (ci := 6) (k := 4) (pc' := 22) rfl dX5_code_19 (by decide +kernel) w_1117 hM.ob rfl ?_
    refine sw_iload_n (pc' := 23) rfl dX5_code_22 rfl ?_
    refine sw_iald (j := k) (pc' := 24) rfl dX5_code_23 hM.sz rfl (by omega) (by decide +kernel) ?_
    refine sw_icmp_ge (pc' := 27) (tgt := 50) rfl dX5_code_24 (by decide +kernel) (fun c24 => ?_) (fun c24 => ?_)
    · refine sw_iload_n (pc' := 51) rfl dX5_code_50 rfl ?_
      refine sw_ret (v := some _) ⟨dX5_code_51, _, rfl, rfl⟩ ?_
      exact fq
    · exact absurd (Int32.le_refl _) c24
  | succ m ih =>
    intro j v hj fq
    refine sw_iload_n (pc' := 18) rfl dX5_code_17 rfl ?_
    refine sw_aload_n (pc' := 19) rfl dX5_code_18 rfl ?_
    refine sw_getf (ci := 6) (k := 4) (pc' := 22) rfl dX5_code_19 (by decide +kernel) w_1117 hM.ob rfl ?_
    refine sw_iload_n (pc' := 23) rfl dX5_code_22 rfl ?_
    refine sw_iald (j := k) (pc' := 24) rfl dX5_code_23 hM.sz rfl (by omega) (by decide +kernel) ?_
    refine sw_icmp_ge (pc' := 27) (tgt := 50) rfl dX5_code_24 (by decide +kernel) (fun c24 => ?_) (fun c24 => ?_)
    · exact absurd c24 (nI_ge (by omega) (by omega))
    · refine sw_iload_n (pc' := 28) rfl dX5_code_27 rfl ?_
      refine sw_bipush (pc' := 30) (v := 31) rfl dX5_code_28 (by decide +kernel) ?_
      refine sw_imul (pc' := 31) rfl dX5_code_30 ?_
      refine sw_aload_n (pc' := 32) rfl dX5_code_31 rfl ?_
      refine sw_getf (ci := 6) (k := 3) (pc' := 35) rfl dX5_code_32 (by decide +kernel) w_1116 hM.ob rfl ?_
      refine sw_iload_n (pc' := 36) rfl dX5_code_35 rfl ?_
      refine sw_aald (j := k) (pc' := 37) rfl dX5_code_36 hG0 (by decide +kernel) (by decide +kernel) rfl (by omega) (by decide +kernel) (eG0 k (by omega)) ?_
      refine sw_iload_n (pc' := 38) rfl dX5_code_37 rfl ?_
      refine sw_iald (j := j) (pc' := 39) rfl dX5_code_38 (hM.row (k := k) (by omega)) rfl (by omega) (by decide +kernel) ?_
      rw [hA.1 k (by omega) j (by omega)]
      refine sw_bipush (pc' := 41) (v := 100) rfl dX5_code_39 (by decide +kernel) ?_
      refine sw_irem (pc' := 42) rfl dX5_code_41 (by decide +kernel) ?_
      rw [rem100 (ht j (by omega))]
      refine sw_iadd (pc' := 43) rfl dX5_code_42 ?_
      refine sw_istore_n (pc' := 44) (lv' := [(2, _), (3, _), (0, _), (1, _)]) rfl dX5_code_43 (by decide +kernel) rfl ?_
      refine sw_iinc (pc' := 47) (lv' := [(3, _), (2, _), (0, _), (1, _)]) (v := nI (j + 1)) rfl dX5_code_44 rfl (nI_1 j) (by decide +kernel) rfl ?_
      refine sw_goto (tgt := 17) dX5_code_47 (by decide +kernel) ?_
      exact ih (j + 1) _ (by omega) fq
theorem q_code {h : AH} {d bc bs n : Nat} {σ : CS} {th : Int32} {a : Int32} (hR : RMo h σ th) (hI : Iv σ) (hn : 159 ≤ n) (hd : 8 ≤ d) (h1 : 1 ≤ bc) (h2 : 12 ≤ bs)  : SM SR0 MX5_code d bc bs [.ref 135, .int a] h n (PM h n (tc sI sI) (opCode σ a)) := by
  obtain ⟨ρ, τ, hM, hA⟩ := hR
  obtain ⟨G0, hG0, eG0⟩ := hM.out
  refine sm_of pn_OverwalksModel rfl (Nat.le_of_ble_eq_true rfl) ?_
  rcases idxN 11 (by decide +kernel) a with qk1 | ⟨k, hk, rfl⟩
  · refine sw_aload_n (pc' := 1) rfl dX5_code_0 rfl ?_
    refine sw_iload_n (pc' := 2) rfl dX5_code_1 rfl ?_
    refine sw_S (M' := MX5_isNone) (d' := d - 1) (bc' := 0) (bs' := 0) (as := [_]) dX5_code_2 w_1165 ok_X5_isNone (q_isNone (by omega)) (by omega) (Nat.le_of_ble_eq_true rfl) (Nat.zero_le _) (Nat.zero_le _) (fun E h' n' _ z => det_x z) (det_k ?_)
    rw [show inB a 0 10 = false from no_x (N := 10) (by decide +kernel) qk1]
    show SW _ _ _ _ _ _ _ (.int 1 :: _) _ _ _
    refine sw_V (M' := MX5_isStopped__) (d' := d - 1) (bc' := 0) (bs' := 0) (ci := 6) (as := [_]) dX5_code_5 w_1235 ok_X5_isStopped__ (q_isStopped1 (a := true) hM hA (by omega)) hM.ob rfl (by omega) (Nat.le_of_ble_eq_true rfl) (Nat.zero_le _) (Nat.zero_le _) (fun E h' n' _ z => rp_x z) (rp_k (fun p5 p5ρ p5τ p5M p5A p5F => ?_))
    obtain ⟨Gp5, hGp5, eGp5⟩ := p5M.out
    show SW _ _ _ _ _ _ _ (.int 1 :: _) _ _ _
    refine sw_if_eq (pc' := 11) (tgt := 13) rfl dX5_code_8 (by decide +kernel) (fun c8 => ?_) (fun c8 => ?_)
    · exact absurd c8 (by decide +kernel)
    · refine sw_iconst (pc' := 12) (v := 0) rfl dX5_code_11 (by decide +kernel) ?_
      refine sw_ret (v := some _) ⟨dX5_code_12, _, rfl, rfl⟩ ?_
      rw [opCode, onSh_x qk1]
      exact pm_x tc_1 p5M p5A p5F (Nat.le_refl _)
  have hck := hI.1 k hk
  refine sw_aload_n (pc' := 1) rfl dX5_code_0 rfl ?_
  refine sw_iload_n (pc' := 2) rfl dX5_code_1 rfl ?_
  refine sw_S (M' := MX5_isNone) (d' := d - 1) (bc' := 0) (bs' := 0) (as := [_]) dX5_code_2 w_1165 ok_X5_isNone (q_isNone (by omega)) (by omega) (Nat.le_of_ble_eq_true rfl) (Nat.zero_le _) (Nat.zero_le _) (fun E h' n' _ z => det_x z) (det_k ?_)
  rw [show inB (nI k) 0 10 = true from inB_k (N := 10) (by omega) (by decide +kernel)]
  show SW _ _ _ _ _ _ _ (.int 0 :: _) _ _ _
  refine sw_V (M' := MX5_isStopped__) (d' := d - 1) (bc' := 0) (bs' := 0) (ci := 6) (as := [_]) dX5_code_5 w_1235 ok_X5_isStopped__ (q_isStopped1 (a := false) hM hA (by omega)) hM.ob rfl (by omega) (Nat.le_of_ble_eq_true rfl) (Nat.zero_le _) (Nat.zero_le _) (fun E h' n' _ z => rp_x z) (rp_k (fun p5 p5ρ p5τ p5M p5A p5F => ?_))
  obtain ⟨Gp5, hGp5, eGp5⟩ := p5M.out
  show SW _ _ _ _ _ _ _ (.int 0 :: _) _ _ _
  refine sw_if_eq (pc' := 11) (tgt := 13) rfl dX5_code_8 (by decide +kernel) (fun c8 => ?_) (fun c8 => ?_)
  · refine sw_iconst (pc' := 14) (v := 1) rfl dX5_code_13 (by decide +kernel) ?_
    refine sw_istore_n (pc' := 15) (lv' := [(2, _), (0, _), (1, _)]) rfl dX5_code_14 (by decide +kernel) rfl ?_
    refine sw_iconst (pc' := 16) (v := 0) rfl dX5_code_15 (by decide +kernel) ?_
    refine sw_istore_n (pc' := 17) (lv' := [(3, _), (2, _), (0, _), (1, _)]) rfl dX5_code_16 (by decide +kernel) rfl ?_
    refine ql_code p5M p5A hk hck (hI.2.2.1 k hk) (σ.2.1 k) 0 1 (by omega) ?_
    rw [opCode, onSh_k hk]
    exact pm_k p5M p5A p5F (Nat.le_refl _)
  · exact absurd c8 (by decide +kernel)
theorem ql_areAlike {h : AH} {d bc bs n : Nat} {ρ : Nat → Nat → Int32} {τ : Nat → Int32} {σ : CS} {th : Int32} {Post : ARes → AH → Nat → Prop} (hM : MM h ρ τ σ th) (hA : AG ρ τ σ) {k : Nat} (hk : k < 11) (hc : σ.2.1 k ≤ 12) {l : Nat} (hl : l < 11) (m : Nat) : ∀ (j : Nat) (w : Bool), j + m = σ.2.1 k → (w = true → σ.2.1 k = σ.2.1 l) → Post (.inl (some (.int (bI (w && alB (σ.1 k) (σ.1 l) j m))))) h n → SW SR0 MX5_areAlike d bc bs 52 [(4, .int (nI j)), (3, .int (bI w)), (0, .ref 135), (1, .int (nI k)), (2, .int (nI l))] [] h n Post := by
  obtain ⟨G0, hG0, eG0⟩ := hM.out
  induction m with
  | zero =>
    intro j w hj hw fq
    rw [show alB (σ.1 k) (σ.1 l) j 0 = true from rfl, Bool.and_true] at fq
    have hjc : j = σ.2.1 k := by omega
    subst hjc
    refine sw_iload_n (pc' := 53) rfl dX5_areAlike_52 rfl ?_
    refine sw_if_eq (pc' := 56) (tgt := 100) rfl dX5_areAlike_53 (by decide +kernel) (fun c53 => ?_) (fun c53 => ?_)
    · refine sw_iload_n (pc' := 101) rfl dX5_areAlike_100 rfl ?_
      refine sw_ret (v := some _) ⟨dX5_areAlike_101, _, rfl, bI_i⟩ ?_
      exact fq
    · refine sw_iload (pc' := 58) rfl dX5_areAlike_56 rfl ?_
      refine sw_aload_n (pc' := 59) rfl dX5_areAlike_58 rfl ?_
      refine sw_getf (ci := 6) (k := 4) (pc' := 62) rfl dX5_areAlike_59 (by decide +kernel) w_1117 hM.ob rfl ?_
      refine sw_iload_n (pc' := 63) rfl dX5_areAlike_62 rfl ?_
      refine sw_iald (j := k) (pc' := 64) rfl dX5_areAlike_63 hM.sz rfl (by omega) (by decide +kernel) ?_
      refine sw_icmp_ge (pc' := 67) (tgt := 100) rfl dX5_areAlike_64 (by decide +kernel) (fun c64 => ?_) (fun c64 => ?_)
      · refine sw_iload_n (pc' := 101) rfl dX5_areAlike_100 rfl ?_
        refine sw_ret (v := some _) ⟨dX5_areAlike_101, _, rfl, bI_i⟩ ?_
        exact fq
      · exact absurd (Int32.le_refl _) c64
  | succ m ih =>
    intro j w hj hw fq
    cases w with
    | false =>
      refine sw_iload_n (pc' := 53) rfl dX5_areAlike_52 rfl ?_
      refine sw_if_eq (pc' := 56) (tgt := 100) rfl dX5_areAlike_53 (by decide +kernel) (fun c53 => ?_) (fun c53 => ?_)
      · refine sw_iload_n (pc' := 101) rfl dX5_areAlike_100 rfl ?_
        refine sw_ret (v := some _) ⟨dX5_areAlike_101, _, rfl, rfl⟩ ?_
        exact fq
      · exact absurd c53 (by decide +kernel)
    | true =>
      have e := hw rfl
      rw [Bool.true_and, alB] at fq
      refine sw_iload_n (pc' := 53) rfl dX5_areAlike_52 rfl ?_
      refine sw_if_eq (pc' := 56) (tgt := 100) rfl dX5_areAlike_53 (by decide +kernel) (fun c53 => ?_) (fun c53 => ?_)
      · exact absurd c53 (by decide +kernel)
      · refine sw_iload (pc' := 58) rfl dX5_areAlike_56 rfl ?_
        refine sw_aload_n (pc' := 59) rfl dX5_areAlike_58 rfl ?_
        refine sw_getf (ci := 6) (k := 4) (pc' := 62) rfl dX5_areAlike_59 (by decide +kernel) w_1117 hM.ob rfl ?_
        refine sw_iload_n (pc' := 63) rfl dX5_areAlike_62 rfl ?_
        refine sw_iald (j := k) (pc' := 64) rfl dX5_areAlike_63 hM.sz rfl (by omega) (by decide +kernel) ?_
        refine sw_icmp_ge (pc' := 67) (tgt := 100) rfl dX5_areAlike_64 (by decide +kernel) (fun c64 => ?_) (fun c64 => ?_)
        · exact absurd c64 (nI_ge (by omega) (by omega))
        · refine sw_aload_n (pc' := 68) rfl dX5_areAlike_67 rfl ?_
          refine sw_getf (ci := 6) (k := 3) (pc' := 71) rfl dX5_areAlike_68 (by decide +kernel) w_1116 hM.ob rfl ?_
          refine sw_iload_n (pc' := 72) rfl dX5_areAlike_71 rfl ?_
          refine sw_aald (j := k) (pc' := 73) rfl dX5_areAlike_72 hG0 (by decide +kernel) (by decide +kernel) rfl (by omega) (by decide +kernel) (eG0 k (by omega)) ?_
          refine sw_iload (pc' := 75) rfl dX5_areAlike_73 rfl ?_
          refine sw_iald (j := j) (pc' := 76) rfl dX5_areAlike_75 (hM.row (k := k) (by omega)) rfl (by omega) (by decide +kernel) ?_
          rw [hA.1 k (by omega) j (by omega)]
          refine sw_aload_n (pc' := 77) rfl dX5_areAlike_76 rfl ?_
          refine sw_getf (ci := 6) (k := 3) (pc' := 80) rfl dX5_areAlike_77 (by decide +kernel) w_1116 hM.ob rfl ?_
          refine sw_iload_n (pc' := 81) rfl dX5_areAlike_80 rfl ?_
          refine sw_aald (j := l) (pc' := 82) rfl dX5_areAlike_81 hG0 (by decide +kernel) (by decide +kernel) rfl (by omega) (by decide +kernel) (eG0 l (by omega)) ?_
          refine sw_iload (pc' := 84) rfl dX5_areAlike_82 rfl ?_
          refine sw_iald (j := j) (pc' := 85) rfl dX5_areAlike_84 (hM.row (k := l) (by omega)) rfl (by omega) (by decide +kernel) ?_
          rw [hA.1 l (by omega) j (by omega)]
          refine sw_icmp_ne (pc' := 88) (tgt := 92) rfl dX5_areAlike_85 (by decide +kernel) (fun c85 => ?_) (fun c85 => ?_)
          · refine sw_iconst (pc' := 93) (v := 0) rfl dX5_areAlike_92 (by decide +kernel) ?_
            refine sw_istore_n (pc' := 94) (lv' := [(3, _), (4, _), (0, _), (1, _), (2, _)]) rfl dX5_areAlike_93 (by decide +kernel) rfl ?_
            refine sw_iinc (pc' := 97) (lv' := [(4, _), (3, _), (0, _), (1, _), (2, _)]) (v := nI (j + 1)) rfl dX5_areAlike_94 rfl (nI_1 j) (by decide +kernel) rfl ?_
            refine sw_goto (tgt := 52) dX5_areAlike_97 (by decide +kernel) ?_
            refine ih (j + 1) false (by omega) (fun _ => e) ?_
            rw [decide_eq_false c85] at fq
            exact fq
          · refine sw_iconst (pc' := 89) (v := 1) rfl dX5_areAlike_88 (by decide +kernel) ?_
            refine sw_goto (tgt := 93) dX5_areAlike_89 (by decide +kernel) ?_
            refine sw_istore_n (pc' := 94) (lv' := [(3, _), (4, _), (0, _), (1, _), (2, _)]) rfl dX5_areAlike_93 (by decide +kernel) rfl ?_
            refine sw_iinc (pc' := 97) (lv' := [(4, _), (3, _), (0, _), (1, _), (2, _)]) (v := nI (j + 1)) rfl dX5_areAlike_94 rfl (nI_1 j) (by decide +kernel) rfl ?_
            refine sw_goto (tgt := 52) dX5_areAlike_97 (by decide +kernel) ?_
            refine ih (j + 1) true (by omega) (fun _ => e) ?_
            rw [decide_eq_true c85] at fq
            exact fq
theorem q_areAlike {h : AH} {d bc bs n : Nat} {σ : CS} {th : Int32} {a b : Int32} (hR : RMo h σ th) (hI : Iv σ) (hn : 159 ≤ n) (hd : 8 ≤ d) (h1 : 1 ≤ bc) (h2 : 12 ≤ bs)  : SM SR0 MX5_areAlike d bc bs [.ref 135, .int a, .int b] h n (PM h n (tc sI sI) (opAreAlike σ a b)) := by
  obtain ⟨ρ, τ, hM, hA⟩ := hR
  obtain ⟨G0, hG0, eG0⟩ := hM.out
  refine sm_of pn_OverwalksModel rfl (Nat.le_of_ble_eq_true rfl) ?_
  rcases idxN 11 (by decide +kernel) a with qk1 | ⟨k, hk, rfl⟩
  · refine sw_aload_n (pc' := 1) rfl dX5_areAlike_0 rfl ?_
    refine sw_iload_n (pc' := 2) rfl dX5_areAlike_1 rfl ?_
    refine sw_S (M' := MX5_isNone) (d' := d - 1) (bc' := 0) (bs' := 0) (as := [_]) dX5_areAlike_2 w_1165 ok_X5_isNone (q_isNone (by omega)) (by omega) (Nat.le_of_ble_eq_true rfl) (Nat.zero_le _) (Nat.zero_le _) (fun E h' n' _ z => det_x z) (det_k ?_)
    rw [show inB a 0 10 = false from no_x (N := 10) (by decide +kernel) qk1]
    show SW _ _ _ _ _ _ _ (.int 1 :: _) _ _ _
    refine sw_if_ne (pc' := 8) (tgt := 15) rfl dX5_areAlike_5 (by decide +kernel) (fun c5 => ?_) (fun c5 => ?_)
    · refine sw_iconst (pc' := 16) (v := 1) rfl dX5_areAlike_15 (by decide +kernel) ?_
      refine sw_goto (tgt := 20) dX5_areAlike_16 (by decide +kernel) ?_
      refine sw_V (M' := MX5_isStopped__) (d' := d - 1) (bc' := 0) (bs' := 0) (ci := 6) (as := [_]) dX5_areAlike_20 w_1235 ok_X5_isStopped__ (q_isStopped1 (a := true) hM hA (by omega)) hM.ob rfl (by omega) (Nat.le_of_ble_eq_true rfl) (Nat.zero_le _) (Nat.zero_le _) (fun E h' n' _ z => rp_x z) (rp_k (fun p20 p20ρ p20τ p20M p20A p20F => ?_))
      obtain ⟨Gp20, hGp20, eGp20⟩ := p20M.out
      show SW _ _ _ _ _ _ _ (.int 1 :: _) _ _ _
      refine sw_if_eq (pc' := 26) (tgt := 28) rfl dX5_areAlike_23 (by decide +kernel) (fun c23 => ?_) (fun c23 => ?_)
      · exact absurd c23 (by decide +kernel)
      · refine sw_iconst (pc' := 27) (v := 0) rfl dX5_areAlike_26 (by decide +kernel) ?_
        refine sw_ret (v := some _) ⟨dX5_areAlike_27, _, rfl, rfl⟩ ?_
        rw [opAreAlike, onSh_x qk1]
        exact pm_x tc_1 p20M p20A p20F (Nat.le_refl _)
    · exact absurd c5 (by decide +kernel)
  have hck := hI.1 k hk
  rcases idxN 11 (by decide +kernel) b with qj1 | ⟨j, hj, rfl⟩
  · refine sw_aload_n (pc' := 1) rfl dX5_areAlike_0 rfl ?_
    refine sw_iload_n (pc' := 2) rfl dX5_areAlike_1 rfl ?_
    refine sw_S (M' := MX5_isNone) (d' := d - 1) (bc' := 0) (bs' := 0) (as := [_]) dX5_areAlike_2 w_1165 ok_X5_isNone (q_isNone (by omega)) (by omega) (Nat.le_of_ble_eq_true rfl) (Nat.zero_le _) (Nat.zero_le _) (fun E h' n' _ z => det_x z) (det_k ?_)
    rw [show inB (nI k) 0 10 = true from inB_k (N := 10) (by omega) (by decide +kernel)]
    show SW _ _ _ _ _ _ _ (.int 0 :: _) _ _ _
    refine sw_if_ne (pc' := 8) (tgt := 15) rfl dX5_areAlike_5 (by decide +kernel) (fun c5 => ?_) (fun c5 => ?_)
    · exact absurd c5 (by decide +kernel)
    · refine sw_iload_n (pc' := 9) rfl dX5_areAlike_8 rfl ?_
      refine sw_S (M' := MX5_isNone) (d' := d - 1) (bc' := 0) (bs' := 0) (as := [_]) dX5_areAlike_9 w_1165 ok_X5_isNone (q_isNone (by omega)) (by omega) (Nat.le_of_ble_eq_true rfl) (Nat.zero_le _) (Nat.zero_le _) (fun E h' n' _ z => det_x z) (det_k ?_)
      rw [show inB b 0 10 = false from no_x (N := 10) (by decide +kernel) qj1]
      show SW _ _ _ _ _ _ _ (.int 1 :: _) _ _ _
      refine sw_if_eq (pc' := 15) (tgt := 19) rfl dX5_areAlike_12 (by decide +kernel) (fun c12 => ?_) (fun c12 => ?_)
      · exact absurd c12 (by decide +kernel)
      · refine sw_iconst (pc' := 16) (v := 1) rfl dX5_areAlike_15 (by decide +kernel) ?_
        refine sw_goto (tgt := 20) dX5_areAlike_16 (by decide +kernel) ?_
        refine sw_V (M' := MX5_isStopped__) (d' := d - 1) (bc' := 0) (bs' := 0) (ci := 6) (as := [_]) dX5_areAlike_20 w_1235 ok_X5_isStopped__ (q_isStopped1 (a := true) hM hA (by omega)) hM.ob rfl (by omega) (Nat.le_of_ble_eq_true rfl) (Nat.zero_le _) (Nat.zero_le _) (fun E h' n' _ z => rp_x z) (rp_k (fun p20 p20ρ p20τ p20M p20A p20F => ?_))
        obtain ⟨Gp20, hGp20, eGp20⟩ := p20M.out
        show SW _ _ _ _ _ _ _ (.int 1 :: _) _ _ _
        refine sw_if_eq (pc' := 26) (tgt := 28) rfl dX5_areAlike_23 (by decide +kernel) (fun c23 => ?_) (fun c23 => ?_)
        · exact absurd c23 (by decide +kernel)
        · refine sw_iconst (pc' := 27) (v := 0) rfl dX5_areAlike_26 (by decide +kernel) ?_
          refine sw_ret (v := some _) ⟨dX5_areAlike_27, _, rfl, rfl⟩ ?_
          rw [opAreAlike, onSh_k hk, onSh_x qj1]
          exact pm_x tc_1 p20M p20A p20F (Nat.le_refl _)
  have hcj := hI.1 j hj
  refine sw_aload_n (pc' := 1) rfl dX5_areAlike_0 rfl ?_
  refine sw_iload_n (pc' := 2) rfl dX5_areAlike_1 rfl ?_
  refine sw_S (M' := MX5_isNone) (d' := d - 1) (bc' := 0) (bs' := 0) (as := [_]) dX5_areAlike_2 w_1165 ok_X5_isNone (q_isNone (by omega)) (by omega) (Nat.le_of_ble_eq_true rfl) (Nat.zero_le _) (Nat.zero_le _) (fun E h' n' _ z => det_x z) (det_k ?_)
  rw [show inB (nI k) 0 10 = true from inB_k (N := 10) (by omega) (by decide +kernel)]
  show SW _ _ _ _ _ _ _ (.int 0 :: _) _ _ _
  refine sw_if_ne (pc' := 8) (tgt := 15) rfl dX5_areAlike_5 (by decide +kernel) (fun c5 => ?_) (fun c5 => ?_)
  · exact absurd c5 (by decide +kernel)
  · refine sw_iload_n (pc' := 9) rfl dX5_areAlike_8 rfl ?_
    refine sw_S (M' := MX5_isNone) (d' := d - 1) (bc' := 0) (bs' := 0) (as := [_]) dX5_areAlike_9 w_1165 ok_X5_isNone (q_isNone (by omega)) (by omega) (Nat.le_of_ble_eq_true rfl) (Nat.zero_le _) (Nat.zero_le _) (fun E h' n' _ z => det_x z) (det_k ?_)
    rw [show inB (nI j) 0 10 = true from inB_k (N := 10) (by omega) (by decide +kernel)]
    show SW _ _ _ _ _ _ _ (.int 0 :: _) _ _ _
    refine sw_if_eq (pc' := 15) (tgt := 19) rfl dX5_areAlike_12 (by decide +kernel) (fun c12 => ?_) (fun c12 => ?_)
    · refine sw_iconst (pc' := 20) (v := 0) rfl dX5_areAlike_19 (by decide +kernel) ?_
      refine sw_V (M' := MX5_isStopped__) (d' := d - 1) (bc' := 0) (bs' := 0) (ci := 6) (as := [_]) dX5_areAlike_20 w_1235 ok_X5_isStopped__ (q_isStopped1 (a := false) hM hA (by omega)) hM.ob rfl (by omega) (Nat.le_of_ble_eq_true rfl) (Nat.zero_le _) (Nat.zero_le _) (fun E h' n' _ z => rp_x z) (rp_k (fun p20 p20ρ p20τ p20M p20A p20F => ?_))
      obtain ⟨Gp20, hGp20, eGp20⟩ := p20M.out
      show SW _ _ _ _ _ _ _ (.int 0 :: _) _ _ _
      refine sw_if_eq (pc' := 26) (tgt := 28) rfl dX5_areAlike_23 (by decide +kernel) (fun c23 => ?_) (fun c23 => ?_)
      · refine sw_aload_n (pc' := 29) rfl dX5_areAlike_28 rfl ?_
        refine sw_getf (ci := 6) (k := 4) (pc' := 32) rfl dX5_areAlike_29 (by decide +kernel) w_1117 p20M.ob rfl ?_
        refine sw_iload_n (pc' := 33) rfl dX5_areAlike_32 rfl ?_
        refine sw_iald (j := k) (pc' := 34) rfl dX5_areAlike_33 p20M.sz rfl (by omega) (by decide +kernel) ?_
        refine sw_aload_n (pc' := 35) rfl dX5_areAlike_34 rfl ?_
        refine sw_getf (ci := 6) (k := 4) (pc' := 38) rfl dX5_areAlike_35 (by decide +kernel) w_1117 p20M.ob rfl ?_
        refine sw_iload_n (pc' := 39) rfl dX5_areAlike_38 rfl ?_
        refine sw_iald (j := j) (pc' := 40) rfl dX5_areAlike_39 p20M.sz rfl (by omega) (by decide +kernel) ?_
        refine sw_icmp_ne (pc' := 43) (tgt := 47) rfl dX5_areAlike_40 (by decide +kernel) (fun c40 => ?_) (fun c40 => ?_)
        · refine sw_iconst (pc' := 48) (v := 0) rfl dX5_areAlike_47 (by decide +kernel) ?_
          refine sw_istore_n (pc' := 49) (lv' := [(3, _), (0, _), (1, _), (2, _)]) rfl dX5_areAlike_48 (by decide +kernel) rfl ?_
          refine sw_iconst (pc' := 50) (v := 0) rfl dX5_areAlike_49 (by decide +kernel) ?_
          refine sw_istore (pc' := 52) (lv' := [(4, _), (3, _), (0, _), (1, _), (2, _)]) rfl dX5_areAlike_50 (by decide +kernel) rfl ?_
          refine ql_areAlike p20M p20A hk hck hj (σ.2.1 k) 0 false (by omega) (fun e => by cases e) ?_
          rw [opAreAlike, onSh_k hk, onSh_k hj, hsB, decide_eq_false (fun g => c40 (by rw [g]))]
          exact pm_k p20M p20A p20F (Nat.le_refl _)
        · refine sw_iconst (pc' := 44) (v := 1) rfl dX5_areAlike_43 (by decide +kernel) ?_
          refine sw_goto (tgt := 48) dX5_areAlike_44 (by decide +kernel) ?_
          refine sw_istore_n (pc' := 49) (lv' := [(3, _), (0, _), (1, _), (2, _)]) rfl dX5_areAlike_48 (by decide +kernel) rfl ?_
          refine sw_iconst (pc' := 50) (v := 0) rfl dX5_areAlike_49 (by decide +kernel) ?_
          refine sw_istore (pc' := 52) (lv' := [(4, _), (3, _), (0, _), (1, _), (2, _)]) rfl dX5_areAlike_50 (by decide +kernel) rfl ?_
          refine ql_areAlike p20M p20A hk hck hj (σ.2.1 k) 0 true (by omega) (fun _ => (nI_eq (by omega) (by omega)).mp c40) ?_
          rw [opAreAlike, onSh_k hk, onSh_k hj, hsB, decide_eq_true ((nI_eq (by omega) (by omega)).mp c40)]
          exact pm_k p20M p20A p20F (Nat.le_refl _)
      · exact absurd c23 (by decide +kernel)
    · exact absurd c12 (by decide +kernel)
theorem ql_placeOf {h : AH} {d bc bs n : Nat} {ρ : Nat → Nat → Int32} {τ : Nat → Int32} {σ : CS} {th : Int32} {x y : Int32} {Post : ARes → AH → Nat → Prop} (hM : MM h ρ τ σ th) (hA : AG ρ τ σ) {k : Nat} (hk : k < 11) (hc : σ.2.1 k ≤ 12) (hy : ¬ y = 0) (fq : Post (.inl (some (.int (opI (lpN (σ.1 k) x (σ.2.1 k)))))) h n) (m : Nat) : ∀ (j : Nat), j + m = σ.2.1 k → SW SR0 MX5_placeOf d bc bs 28 [(5, .int (nI j)), (4, .int (fnd (σ.1 k) x (σ.2.1 k) j)), (0, .ref 135), (1, .int (nI k)), (2, .int x), (3, .int y)] [] h n Post := by
  obtain ⟨G0, hG0, eG0⟩ := hM.out
  induction m with
  | zero =>
    intro j hj
    have hjc : j = σ.2.1 k := by omega
    subst hjc
    rw [fnd_c]
    refine sw_iload_n (pc' := 29) rfl dX5_placeOf_28 rfl ?_
    refine sw_if_eq (pc' := 32) (tgt := 71) rfl dX5_placeOf_29 (by decide +kernel) (fun c29 => ?_) (fun c29 => ?_)
    · exact absurd c29 hy
    · refine sw_iload (pc' := 34) rfl dX5_placeOf_32 rfl ?_
      refine sw_aload_n (pc' := 35) rfl dX5_placeOf_34 rfl ?_
      refine sw_getf (ci := 6) (k := 4) (pc' := 38) rfl dX5_placeOf_35 (by decide +kernel) w_1117 hM.ob rfl ?_
      refine sw_iload_n (pc' := 39) rfl dX5_placeOf_38 rfl ?_
      refine sw_iald (j := k) (pc' := 40) rfl dX5_placeOf_39 hM.sz rfl (by omega) (by decide +kernel) ?_
      refine sw_icmp_ge (pc' := 43) (tgt := 71) rfl dX5_placeOf_40 (by decide +kernel) (fun c40 => ?_) (fun c40 => ?_)
      · refine sw_iload (pc' := 73) rfl dX5_placeOf_71 rfl ?_
        refine sw_ret (v := some _) ⟨dX5_placeOf_73, _, rfl, rfl⟩ ?_
        exact fq
      · exact absurd (Int32.le_refl _) c40
  | succ m ih =>
    intro j hj
    refine sw_iload_n (pc' := 29) rfl dX5_placeOf_28 rfl ?_
    refine sw_if_eq (pc' := 32) (tgt := 71) rfl dX5_placeOf_29 (by decide +kernel) (fun c29 => ?_) (fun c29 => ?_)
    · exact absurd c29 hy
    · refine sw_iload (pc' := 34) rfl dX5_placeOf_32 rfl ?_
      refine sw_aload_n (pc' := 35) rfl dX5_placeOf_34 rfl ?_
      refine sw_getf (ci := 6) (k := 4) (pc' := 38) rfl dX5_placeOf_35 (by decide +kernel) w_1117 hM.ob rfl ?_
      refine sw_iload_n (pc' := 39) rfl dX5_placeOf_38 rfl ?_
      refine sw_iald (j := k) (pc' := 40) rfl dX5_placeOf_39 hM.sz rfl (by omega) (by decide +kernel) ?_
      refine sw_icmp_ge (pc' := 43) (tgt := 71) rfl dX5_placeOf_40 (by decide +kernel) (fun c40 => ?_) (fun c40 => ?_)
      · exact absurd c40 (nI_ge (by omega) (by omega))
      · refine sw_aload_n (pc' := 44) rfl dX5_placeOf_43 rfl ?_
        refine sw_getf (ci := 6) (k := 3) (pc' := 47) rfl dX5_placeOf_44 (by decide +kernel) w_1116 hM.ob rfl ?_
        refine sw_iload_n (pc' := 48) rfl dX5_placeOf_47 rfl ?_
        refine sw_aald (j := k) (pc' := 49) rfl dX5_placeOf_48 hG0 (by decide +kernel) (by decide +kernel) rfl (by omega) (by decide +kernel) (eG0 k (by omega)) ?_
        refine sw_iload (pc' := 51) rfl dX5_placeOf_49 rfl ?_
        refine sw_iald (j := j) (pc' := 52) rfl dX5_placeOf_51 (hM.row (k := k) (by omega)) rfl (by omega) (by decide +kernel) ?_
        rw [hA.1 k (by omega) j (by omega)]
        refine sw_iload_n (pc' := 53) rfl dX5_placeOf_52 rfl ?_
        refine sw_icmp_ne (pc' := 56) (tgt := 61) rfl dX5_placeOf_53 (by decide +kernel) (fun c53 => ?_) (fun c53 => ?_)
        · refine sw_iload (pc' := 63) rfl dX5_placeOf_61 rfl ?_
          refine sw_istore (pc' := 65) (lv' := [(4, _), (5, _), (0, _), (1, _), (2, _), (3, _)]) rfl dX5_placeOf_63 (by decide +kernel) rfl ?_
          refine sw_iinc (pc' := 68) (lv' := [(5, _), (4, _), (0, _), (1, _), (2, _), (3, _)]) (v := nI (j + 1)) rfl dX5_placeOf_65 rfl (nI_1 j) (by decide +kernel) rfl ?_
          refine sw_goto (tgt := 28) dX5_placeOf_68 (by decide +kernel) ?_
          have g := ih (j + 1) (by omega)
          rw [fnd_s, if_neg c53] at g
          exact g
        · refine sw_iload (pc' := 58) rfl dX5_placeOf_56 rfl ?_
          refine sw_goto (tgt := 63) dX5_placeOf_58 (by decide +kernel) ?_
          refine sw_istore (pc' := 65) (lv' := [(4, _), (5, _), (0, _), (1, _), (2, _), (3, _)]) rfl dX5_placeOf_63 (by decide +kernel) rfl ?_
          refine sw_iinc (pc' := 68) (lv' := [(5, _), (4, _), (0, _), (1, _), (2, _), (3, _)]) (v := nI (j + 1)) rfl dX5_placeOf_65 rfl (nI_1 j) (by decide +kernel) rfl ?_
          refine sw_goto (tgt := 28) dX5_placeOf_68 (by decide +kernel) ?_
          have g := ih (j + 1) (by omega)
          rw [fnd_s, if_pos c53] at g
          exact g
theorem q_placeOf {h : AH} {d bc bs n : Nat} {σ : CS} {th : Int32} {a x y : Int32} (hR : RMo h σ th) (hI : Iv σ) (hn : 159 ≤ n) (hd : 8 ≤ d) (h1 : 1 ≤ bc) (h2 : 12 ≤ bs)  : SM SR0 MX5_placeOf d bc bs [.ref 135, .int a, .int x, .int y] h n (PM h n (tc sI sA) (opPlaceOf σ a x y)) := by
  obtain ⟨ρ, τ, hM, hA⟩ := hR
  obtain ⟨G0, hG0, eG0⟩ := hM.out
  refine sm_of pn_OverwalksModel rfl (Nat.le_of_ble_eq_true rfl) ?_
  rcases idxN 11 (by decide +kernel) a with qk1 | ⟨k, hk, rfl⟩
  · refine sw_aload_n (pc' := 1) rfl dX5_placeOf_0 rfl ?_
    refine sw_iload_n (pc' := 2) rfl dX5_placeOf_1 rfl ?_
    refine sw_S (M' := MX5_isNoRow) (d' := d - 1) (bc' := 0) (bs' := 0) (as := [_]) dX5_placeOf_2 w_1267 ok_X5_isNoRow (q_isNoRow (by omega)) (by omega) (Nat.le_of_ble_eq_true rfl) (Nat.zero_le _) (Nat.zero_le _) (fun E h' n' _ z => det_x z) (det_k ?_)
    rw [show nrB a = true from nrB_x qk1]
    show SW _ _ _ _ _ _ _ (.int 1 :: _) _ _ _
    refine sw_iload_n (pc' := 6) rfl dX5_placeOf_5 rfl ?_
    refine sw_S (M' := MX5_isNoThing) (d' := d - 1) (bc' := 0) (bs' := 0) (as := [_]) dX5_placeOf_6 w_1171 ok_X5_isNoThing (q_isNoThing (by omega)) (by omega) (Nat.le_of_ble_eq_true rfl) (Nat.zero_le _) (Nat.zero_le _) (fun E h' n' _ z => det_x z) (det_k ?_)
    refine sw_V (M' := MX5_isStopped_) (d' := d - 1) (bc' := 0) (bs' := 0) (ci := 6) (as := [_, _]) dX5_placeOf_9 w_1215 ok_X5_isStopped_ (q_isStopped2 (a := true) (b := (!inB x 0 100)) hM hA (by omega)) hM.ob rfl (by omega) (Nat.le_of_ble_eq_true rfl) (Nat.zero_le _) (Nat.zero_le _) (fun E h' n' _ z => rp_x z) (rp_k (fun p9 p9ρ p9τ p9M p9A p9F => ?_))
    obtain ⟨Gp9, hGp9, eGp9⟩ := p9M.out
    show SW _ _ _ _ _ _ _ (.int 1 :: _) _ _ _
    refine sw_if_eq (pc' := 15) (tgt := 17) rfl dX5_placeOf_12 (by decide +kernel) (fun c12 => ?_) (fun c12 => ?_)
    · exact absurd c12 (by decide +kernel)
    · refine sw_iconst (pc' := 16) (v := 0) rfl dX5_placeOf_15 (by decide +kernel) ?_
      refine sw_ret (v := some _) ⟨dX5_placeOf_16, _, rfl, rfl⟩ ?_
      rw [opPlaceOf, onRw_x qk1]
      exact pm_x tc_1 p9M p9A p9F (Nat.le_refl _)
  rcases Classical.em (kP (kdO k) = false) with qk | qk
  · refine sw_aload_n (pc' := 1) rfl dX5_placeOf_0 rfl ?_
    refine sw_iload_n (pc' := 2) rfl dX5_placeOf_1 rfl ?_
    refine sw_S (M' := MX5_isNoRow) (d' := d - 1) (bc' := 0) (bs' := 0) (as := [_]) dX5_placeOf_2 w_1267 ok_X5_isNoRow (q_isNoRow (by omega)) (by omega) (Nat.le_of_ble_eq_true rfl) (Nat.zero_le _) (Nat.zero_le _) (fun E h' n' _ z => det_x z) (det_k ?_)
    rw [show nrB (nI k) = true from nrB_y hk qk]
    show SW _ _ _ _ _ _ _ (.int 1 :: _) _ _ _
    refine sw_iload_n (pc' := 6) rfl dX5_placeOf_5 rfl ?_
    refine sw_S (M' := MX5_isNoThing) (d' := d - 1) (bc' := 0) (bs' := 0) (as := [_]) dX5_placeOf_6 w_1171 ok_X5_isNoThing (q_isNoThing (by omega)) (by omega) (Nat.le_of_ble_eq_true rfl) (Nat.zero_le _) (Nat.zero_le _) (fun E h' n' _ z => det_x z) (det_k ?_)
    refine sw_V (M' := MX5_isStopped_) (d' := d - 1) (bc' := 0) (bs' := 0) (ci := 6) (as := [_, _]) dX5_placeOf_9 w_1215 ok_X5_isStopped_ (q_isStopped2 (a := true) (b := (!inB x 0 100)) hM hA (by omega)) hM.ob rfl (by omega) (Nat.le_of_ble_eq_true rfl) (Nat.zero_le _) (Nat.zero_le _) (fun E h' n' _ z => rp_x z) (rp_k (fun p9 p9ρ p9τ p9M p9A p9F => ?_))
    obtain ⟨Gp9, hGp9, eGp9⟩ := p9M.out
    show SW _ _ _ _ _ _ _ (.int 1 :: _) _ _ _
    refine sw_if_eq (pc' := 15) (tgt := 17) rfl dX5_placeOf_12 (by decide +kernel) (fun c12 => ?_) (fun c12 => ?_)
    · exact absurd c12 (by decide +kernel)
    · refine sw_iconst (pc' := 16) (v := 0) rfl dX5_placeOf_15 (by decide +kernel) ?_
      refine sw_ret (v := some _) ⟨dX5_placeOf_16, _, rfl, rfl⟩ ?_
      rw [opPlaceOf, onRw_y hk qk]
      exact pm_x tc_1 p9M p9A p9F (Nat.le_refl _)
  have hck := hI.1 k hk
  rcases Classical.em (x < 0 ∨ 100 < x) with qx | qx
  · refine sw_aload_n (pc' := 1) rfl dX5_placeOf_0 rfl ?_
    refine sw_iload_n (pc' := 2) rfl dX5_placeOf_1 rfl ?_
    refine sw_S (M' := MX5_isNoRow) (d' := d - 1) (bc' := 0) (bs' := 0) (as := [_]) dX5_placeOf_2 w_1267 ok_X5_isNoRow (q_isNoRow (by omega)) (by omega) (Nat.le_of_ble_eq_true rfl) (Nat.zero_le _) (Nat.zero_le _) (fun E h' n' _ z => det_x z) (det_k ?_)
    rw [show nrB (nI k) = false from nrB_k hk qk]
    show SW _ _ _ _ _ _ _ (.int 0 :: _) _ _ _
    refine sw_iload_n (pc' := 6) rfl dX5_placeOf_5 rfl ?_
    refine sw_S (M' := MX5_isNoThing) (d' := d - 1) (bc' := 0) (bs' := 0) (as := [_]) dX5_placeOf_6 w_1171 ok_X5_isNoThing (q_isNoThing (by omega)) (by omega) (Nat.le_of_ble_eq_true rfl) (Nat.zero_le _) (Nat.zero_le _) (fun E h' n' _ z => det_x z) (det_k ?_)
    rw [show inB x 0 100 = false from inB_x qx]
    show SW _ _ _ _ _ _ _ (.int 1 :: _) _ _ _
    refine sw_V (M' := MX5_isStopped_) (d' := d - 1) (bc' := 0) (bs' := 0) (ci := 6) (as := [_, _]) dX5_placeOf_9 w_1215 ok_X5_isStopped_ (q_isStopped2 (a := false) (b := true) hM hA (by omega)) hM.ob rfl (by omega) (Nat.le_of_ble_eq_true rfl) (Nat.zero_le _) (Nat.zero_le _) (fun E h' n' _ z => rp_x z) (rp_k (fun p9 p9ρ p9τ p9M p9A p9F => ?_))
    obtain ⟨Gp9, hGp9, eGp9⟩ := p9M.out
    show SW _ _ _ _ _ _ _ (.int 1 :: _) _ _ _
    refine sw_if_eq (pc' := 15) (tgt := 17) rfl dX5_placeOf_12 (by decide +kernel) (fun c12 => ?_) (fun c12 => ?_)
    · exact absurd c12 (by decide +kernel)
    · refine sw_iconst (pc' := 16) (v := 0) rfl dX5_placeOf_15 (by decide +kernel) ?_
      refine sw_ret (v := some _) ⟨dX5_placeOf_16, _, rfl, rfl⟩ ?_
      rw [opPlaceOf, onRw_k hk qk, if_pos qx]
      exact pm_x (tc_2 sAI) p9M p9A p9F (Nat.le_refl _)
  refine sw_aload_n (pc' := 1) rfl dX5_placeOf_0 rfl ?_
  refine sw_iload_n (pc' := 2) rfl dX5_placeOf_1 rfl ?_
  refine sw_S (M' := MX5_isNoRow) (d' := d - 1) (bc' := 0) (bs' := 0) (as := [_]) dX5_placeOf_2 w_1267 ok_X5_isNoRow (q_isNoRow (by omega)) (by omega) (Nat.le_of_ble_eq_true rfl) (Nat.zero_le _) (Nat.zero_le _) (fun E h' n' _ z => det_x z) (det_k ?_)
  rw [show nrB (nI k) = false from nrB_k hk qk]
  show SW _ _ _ _ _ _ _ (.int 0 :: _) _ _ _
  refine sw_iload_n (pc' := 6) rfl dX5_placeOf_5 rfl ?_
  refine sw_S (M' := MX5_isNoThing) (d' := d - 1) (bc' := 0) (bs' := 0) (as := [_]) dX5_placeOf_6 w_1171 ok_X5_isNoThing (q_isNoThing (by omega)) (by omega) (Nat.le_of_ble_eq_true rfl) (Nat.zero_le _) (Nat.zero_le _) (fun E h' n' _ z => det_x z) (det_k ?_)
  rw [show inB x 0 100 = true from inB_n qx]
  show SW _ _ _ _ _ _ _ (.int 0 :: _) _ _ _
  refine sw_V (M' := MX5_isStopped_) (d' := d - 1) (bc' := 0) (bs' := 0) (ci := 6) (as := [_, _]) dX5_placeOf_9 w_1215 ok_X5_isStopped_ (q_isStopped2 (a := false) (b := false) hM hA (by omega)) hM.ob rfl (by omega) (Nat.le_of_ble_eq_true rfl) (Nat.zero_le _) (Nat.zero_le _) (fun E h' n' _ z => rp_x z) (rp_k (fun p9 p9ρ p9τ p9M p9A p9F => ?_))
  obtain ⟨Gp9, hGp9, eGp9⟩ := p9M.out
  show SW _ _ _ _ _ _ _ (.int 0 :: _) _ _ _
  refine sw_if_eq (pc' := 15) (tgt := 17) rfl dX5_placeOf_12 (by decide +kernel) (fun c12 => ?_) (fun c12 => ?_)
  · refine sw_aload_n (pc' := 18) rfl dX5_placeOf_17 rfl ?_
    refine sw_iload_n (pc' := 19) rfl dX5_placeOf_18 rfl ?_
    refine sw_iload_n (pc' := 20) rfl dX5_placeOf_19 rfl ?_
    refine sw_V (M' := MX5_firstPlace) (d' := d - 1) (bc' := 0) (bs' := 0) (ci := 6) (as := [_, _]) dX5_placeOf_20 w_1219 ok_X5_firstPlace (q_firstPlace p9M p9A (k := k) (by omega) (hI.1 k (by omega))) p9M.ob rfl (by omega) (Nat.le_of_ble_eq_true rfl) (Nat.zero_le _) (Nat.zero_le _) (fun E h' n' _ z => det_x z) (det_k ?_)
    refine sw_istore (pc' := 25) (lv' := [(4, _), (0, _), (1, _), (2, _), (3, _)]) rfl dX5_placeOf_23 (by decide +kernel) rfl ?_
    refine sw_iconst (pc' := 26) (v := 0) rfl dX5_placeOf_25 (by decide +kernel) ?_
    refine sw_istore (pc' := 28) (lv' := [(5, _), (4, _), (0, _), (1, _), (2, _), (3, _)]) rfl dX5_placeOf_26 (by decide +kernel) rfl ?_
    rcases Classical.em (y = 0) with qy | qy
    · refine sw_iload_n (pc' := 29) rfl dX5_placeOf_28 rfl ?_
      refine sw_if_eq (pc' := 32) (tgt := 71) rfl dX5_placeOf_29 (by decide +kernel) (fun c29 => ?_) (fun c29 => ?_)
      · refine sw_iload (pc' := 73) rfl dX5_placeOf_71 rfl ?_
        refine sw_ret (v := some _) ⟨dX5_placeOf_73, _, rfl, rfl⟩ ?_
        rw [opPlaceOf, onRw_k hk qk, if_neg qx, if_pos qy]
        exact pm_k p9M p9A p9F (Nat.le_refl _)
      · exact absurd qy c29
    refine ql_placeOf p9M p9A hk hck qy ?_ (σ.2.1 k) 0 (by omega)
    rw [opPlaceOf, onRw_k hk qk, if_neg qx, if_neg qy]
    exact pm_k p9M p9A p9F (Nat.le_refl _)
  · exact absurd c12 (by decide +kernel)
theorem ql_disjoint {h : AH} {d bc bs n : Nat} {ρ : Nat → Nat → Int32} {τ : Nat → Int32} {σ : CS} {th : Int32} {Post : ARes → AH → Nat → Prop} (hM : MM h ρ τ σ th) (hA : AG ρ τ σ) {k : Nat} (hk : k < 11) (hc : σ.2.1 k ≤ 12) {l : Nat} (hl : l < 11) (hcl : σ.2.1 l ≤ 12) (hd : 2 ≤ d) (m : Nat) : ∀ (j : Nat) (w : Bool), j + m = σ.2.1 k → Post (.inl (some (.int (bI (w && djB σ k l j m))))) h n → SW SR0 MX5_disjoint d bc bs 68 [(4, .int (nI j)), (3, .int (bI w)), (0, .ref 135), (1, .int (nI k)), (2, .int (nI l))] [] h n Post := by
  obtain ⟨G0, hG0, eG0⟩ := hM.out
  induction m with
  | zero =>
    intro j w hj fq
    rw [show djB σ k l j 0 = true from rfl, Bool.and_true] at fq
    have hjc : j = σ.2.1 k := by omega
    subst hjc
    refine sw_iload (pc' := 70) rfl dX5_disjoint_68 rfl ?_
    refine sw_aload_n (pc' := 71) rfl dX5_disjoint_70 rfl ?_
    refine sw_getf (ci := 6) (k := 4) (pc' := 74) rfl dX5_disjoint_71 (by decide +kernel) w_1117 hM.ob rfl ?_
    refine sw_iload_n (pc' := 75) rfl dX5_disjoint_74 rfl ?_
    refine sw_iald (j := k) (pc' := 76) rfl dX5_disjoint_75 hM.sz rfl (by omega) (by decide +kernel) ?_
    refine sw_icmp_ge (pc' := 79) (tgt := 110) rfl dX5_disjoint_76 (by decide +kernel) (fun c76 => ?_) (fun c76 => ?_)
    · refine sw_iload_n (pc' := 111) rfl dX5_disjoint_110 rfl ?_
      refine sw_S (M' := MX5_one) (d' := d - 1) (bc' := 0) (bs' := 0) (as := [_]) dX5_disjoint_111 w_1196 ok_X5_one (q_one (q := w)) (by omega) (Nat.le_of_ble_eq_true rfl) (Nat.zero_le _) (Nat.zero_le _) (fun E h' n' _ z => det_x z) (det_k ?_)
      refine sw_ret (v := some _) ⟨dX5_disjoint_114, _, rfl, rfl⟩ ?_
      exact fq
    · exact absurd (Int32.le_refl _) c76
  | succ m ih =>
    intro j w hj fq
    rw [djB, ← Bool.and_assoc] at fq
    refine sw_iload (pc' := 70) rfl dX5_disjoint_68 rfl ?_
    refine sw_aload_n (pc' := 71) rfl dX5_disjoint_70 rfl ?_
    refine sw_getf (ci := 6) (k := 4) (pc' := 74) rfl dX5_disjoint_71 (by decide +kernel) w_1117 hM.ob rfl ?_
    refine sw_iload_n (pc' := 75) rfl dX5_disjoint_74 rfl ?_
    refine sw_iald (j := k) (pc' := 76) rfl dX5_disjoint_75 hM.sz rfl (by omega) (by decide +kernel) ?_
    refine sw_icmp_ge (pc' := 79) (tgt := 110) rfl dX5_disjoint_76 (by decide +kernel) (fun c76 => ?_) (fun c76 => ?_)
    · exact absurd c76 (nI_ge (by omega) (by omega))
    · refine sw_iload_n (pc' := 80) rfl dX5_disjoint_79 rfl ?_
      refine sw_aload_n (pc' := 81) rfl dX5_disjoint_80 rfl ?_
      refine sw_iload_n (pc' := 82) rfl dX5_disjoint_81 rfl ?_
      refine sw_aload_n (pc' := 83) rfl dX5_disjoint_82 rfl ?_
      refine sw_getf (ci := 6) (k := 3) (pc' := 86) rfl dX5_disjoint_83 (by decide +kernel) w_1116 hM.ob rfl ?_
      refine sw_iload_n (pc' := 87) rfl dX5_disjoint_86 rfl ?_
      refine sw_aald (j := k) (pc' := 88) rfl dX5_disjoint_87 hG0 (by decide +kernel) (by decide +kernel) rfl (by omega) (by decide +kernel) (eG0 k (by omega)) ?_
      refine sw_iload (pc' := 90) rfl dX5_disjoint_88 rfl ?_
      refine sw_iald (j := j) (pc' := 91) rfl dX5_disjoint_90 (hM.row (k := k) (by omega)) rfl (by omega) (by decide +kernel) ?_
      rw [hA.1 k (by omega) j (by omega)]
      refine sw_V (M' := MX5_count) (d' := d - 1) (bc' := 0) (bs' := 0) (ci := 6) (as := [_, _]) dX5_disjoint_91 w_1192 ok_X5_count (q_count hM hA hl hcl (by omega)) hM.ob rfl (by omega) (Nat.le_of_ble_eq_true rfl) (Nat.zero_le _) (Nat.zero_le _) (fun E h' n' _ z => det_x z) (det_k ?_)
      have hb := coN_le (f := σ.1 l) (x := σ.1 k j) (m := σ.2.1 l) (j := 0)
      refine sw_if_ne (pc' := 97) (tgt := 101) rfl dX5_disjoint_94 (by decide +kernel) (fun c94 => ?_) (fun c94 => ?_)
      · refine sw_iconst (pc' := 102) (v := 0) rfl dX5_disjoint_101 (by decide +kernel) ?_
        refine sw_iand (pc' := 103) rfl dX5_disjoint_102 ?_
        rw [show bI w &&& 0 = bI (w && false) from bI_and (b := false)]
        refine sw_istore_n (pc' := 104) (lv' := [(3, _), (4, _), (0, _), (1, _), (2, _)]) rfl dX5_disjoint_103 (by decide +kernel) rfl ?_
        refine sw_iinc (pc' := 107) (lv' := [(4, _), (3, _), (0, _), (1, _), (2, _)]) (v := nI (j + 1)) rfl dX5_disjoint_104 rfl (nI_1 j) (by decide +kernel) rfl ?_
        refine sw_goto (tgt := 68) dX5_disjoint_107 (by decide +kernel) ?_
        refine ih (j + 1) (w && false) (by omega) ?_
        rw [fp_of_co1 (Nat.pos_of_ne_zero (fun g => c94 (by rw [g]; rfl)))] at fq
        exact fq
      · refine sw_iconst (pc' := 98) (v := 1) rfl dX5_disjoint_97 (by decide +kernel) ?_
        refine sw_goto (tgt := 102) dX5_disjoint_98 (by decide +kernel) ?_
        refine sw_iand (pc' := 103) rfl dX5_disjoint_102 ?_
        rw [show bI w &&& 1 = bI (w && true) from bI_and (b := true)]
        refine sw_istore_n (pc' := 104) (lv' := [(3, _), (4, _), (0, _), (1, _), (2, _)]) rfl dX5_disjoint_103 (by decide +kernel) rfl ?_
        refine sw_iinc (pc' := 107) (lv' := [(4, _), (3, _), (0, _), (1, _), (2, _)]) (v := nI (j + 1)) rfl dX5_disjoint_104 rfl (nI_1 j) (by decide +kernel) rfl ?_
        refine sw_goto (tgt := 68) dX5_disjoint_107 (by decide +kernel) ?_
        refine ih (j + 1) (w && true) (by omega) ?_
        have ec := (nI_eq (b := 0) (by omega) (by decide +kernel)).mp c94
        rw [fp_of_co (by omega)] at fq
        exact fq
theorem q_disjoint {h : AH} {d bc bs n : Nat} {σ : CS} {th : Int32} {a b : Int32} (hR : RMo h σ th) (hI : Iv σ) (hn : 159 ≤ n) (hd : 8 ≤ d) (h1 : 1 ≤ bc) (h2 : 12 ≤ bs)  : SM SR0 MX5_disjoint d bc bs [.ref 135, .int a, .int b] h n (PM h n (tc sI sI) (opDisjoint σ a b)) := by
  obtain ⟨ρ, τ, hM, hA⟩ := hR
  obtain ⟨G0, hG0, eG0⟩ := hM.out
  refine sm_of pn_OverwalksModel rfl (Nat.le_of_ble_eq_true rfl) ?_
  rcases idxN 11 (by decide +kernel) a with qk1 | ⟨k, hk, rfl⟩
  · refine sw_aload_n (pc' := 1) rfl dX5_disjoint_0 rfl ?_
    refine sw_iload_n (pc' := 2) rfl dX5_disjoint_1 rfl ?_
    refine sw_S (M' := MX5_isNone) (d' := d - 1) (bc' := 0) (bs' := 0) (as := [_]) dX5_disjoint_2 w_1165 ok_X5_isNone (q_isNone (by omega)) (by omega) (Nat.le_of_ble_eq_true rfl) (Nat.zero_le _) (Nat.zero_le _) (fun E h' n' _ z => det_x z) (det_k ?_)
    rw [show inB a 0 10 = false from no_x (N := 10) (by decide +kernel) qk1]
    show SW _ _ _ _ _ _ _ (.int 1 :: _) _ _ _
    refine sw_if_ne (pc' := 8) (tgt := 15) rfl dX5_disjoint_5 (by decide +kernel) (fun c5 => ?_) (fun c5 => ?_)
    · refine sw_iconst (pc' := 16) (v := 1) rfl dX5_disjoint_15 (by decide +kernel) ?_
      refine sw_goto (tgt := 20) dX5_disjoint_16 (by decide +kernel) ?_
      refine sw_V (M' := MX5_isStopped__) (d' := d - 1) (bc' := 0) (bs' := 0) (ci := 6) (as := [_]) dX5_disjoint_20 w_1235 ok_X5_isStopped__ (q_isStopped1 (a := true) hM hA (by omega)) hM.ob rfl (by omega) (Nat.le_of_ble_eq_true rfl) (Nat.zero_le _) (Nat.zero_le _) (fun E h' n' _ z => rp_x z) (rp_k (fun p20 p20ρ p20τ p20M p20A p20F => ?_))
      obtain ⟨Gp20, hGp20, eGp20⟩ := p20M.out
      show SW _ _ _ _ _ _ _ (.int 1 :: _) _ _ _
      refine sw_if_eq (pc' := 26) (tgt := 28) rfl dX5_disjoint_23 (by decide +kernel) (fun c23 => ?_) (fun c23 => ?_)
      · exact absurd c23 (by decide +kernel)
      · refine sw_iconst (pc' := 27) (v := 0) rfl dX5_disjoint_26 (by decide +kernel) ?_
        refine sw_ret (v := some _) ⟨dX5_disjoint_27, _, rfl, rfl⟩ ?_
        rw [opDisjoint, onSh_x qk1]
        exact pm_x tc_1 p20M p20A p20F (Nat.le_refl _)
    · exact absurd c5 (by decide +kernel)
  have hck := hI.1 k hk
  rcases idxN 11 (by decide +kernel) b with qj1 | ⟨j, hj, rfl⟩
  · refine sw_aload_n (pc' := 1) rfl dX5_disjoint_0 rfl ?_
    refine sw_iload_n (pc' := 2) rfl dX5_disjoint_1 rfl ?_
    refine sw_S (M' := MX5_isNone) (d' := d - 1) (bc' := 0) (bs' := 0) (as := [_]) dX5_disjoint_2 w_1165 ok_X5_isNone (q_isNone (by omega)) (by omega) (Nat.le_of_ble_eq_true rfl) (Nat.zero_le _) (Nat.zero_le _) (fun E h' n' _ z => det_x z) (det_k ?_)
    rw [show inB (nI k) 0 10 = true from inB_k (N := 10) (by omega) (by decide +kernel)]
    show SW _ _ _ _ _ _ _ (.int 0 :: _) _ _ _
    refine sw_if_ne (pc' := 8) (tgt := 15) rfl dX5_disjoint_5 (by decide +kernel) (fun c5 => ?_) (fun c5 => ?_)
    · exact absurd c5 (by decide +kernel)
    · refine sw_iload_n (pc' := 9) rfl dX5_disjoint_8 rfl ?_
      refine sw_S (M' := MX5_isNone) (d' := d - 1) (bc' := 0) (bs' := 0) (as := [_]) dX5_disjoint_9 w_1165 ok_X5_isNone (q_isNone (by omega)) (by omega) (Nat.le_of_ble_eq_true rfl) (Nat.zero_le _) (Nat.zero_le _) (fun E h' n' _ z => det_x z) (det_k ?_)
      rw [show inB b 0 10 = false from no_x (N := 10) (by decide +kernel) qj1]
      show SW _ _ _ _ _ _ _ (.int 1 :: _) _ _ _
      refine sw_if_eq (pc' := 15) (tgt := 19) rfl dX5_disjoint_12 (by decide +kernel) (fun c12 => ?_) (fun c12 => ?_)
      · exact absurd c12 (by decide +kernel)
      · refine sw_iconst (pc' := 16) (v := 1) rfl dX5_disjoint_15 (by decide +kernel) ?_
        refine sw_goto (tgt := 20) dX5_disjoint_16 (by decide +kernel) ?_
        refine sw_V (M' := MX5_isStopped__) (d' := d - 1) (bc' := 0) (bs' := 0) (ci := 6) (as := [_]) dX5_disjoint_20 w_1235 ok_X5_isStopped__ (q_isStopped1 (a := true) hM hA (by omega)) hM.ob rfl (by omega) (Nat.le_of_ble_eq_true rfl) (Nat.zero_le _) (Nat.zero_le _) (fun E h' n' _ z => rp_x z) (rp_k (fun p20 p20ρ p20τ p20M p20A p20F => ?_))
        obtain ⟨Gp20, hGp20, eGp20⟩ := p20M.out
        show SW _ _ _ _ _ _ _ (.int 1 :: _) _ _ _
        refine sw_if_eq (pc' := 26) (tgt := 28) rfl dX5_disjoint_23 (by decide +kernel) (fun c23 => ?_) (fun c23 => ?_)
        · exact absurd c23 (by decide +kernel)
        · refine sw_iconst (pc' := 27) (v := 0) rfl dX5_disjoint_26 (by decide +kernel) ?_
          refine sw_ret (v := some _) ⟨dX5_disjoint_27, _, rfl, rfl⟩ ?_
          rw [opDisjoint, onSh_k hk, onSh_x qj1]
          exact pm_x tc_1 p20M p20A p20F (Nat.le_refl _)
  have hcj := hI.1 j hj
  refine sw_aload_n (pc' := 1) rfl dX5_disjoint_0 rfl ?_
  refine sw_iload_n (pc' := 2) rfl dX5_disjoint_1 rfl ?_
  refine sw_S (M' := MX5_isNone) (d' := d - 1) (bc' := 0) (bs' := 0) (as := [_]) dX5_disjoint_2 w_1165 ok_X5_isNone (q_isNone (by omega)) (by omega) (Nat.le_of_ble_eq_true rfl) (Nat.zero_le _) (Nat.zero_le _) (fun E h' n' _ z => det_x z) (det_k ?_)
  rw [show inB (nI k) 0 10 = true from inB_k (N := 10) (by omega) (by decide +kernel)]
  show SW _ _ _ _ _ _ _ (.int 0 :: _) _ _ _
  refine sw_if_ne (pc' := 8) (tgt := 15) rfl dX5_disjoint_5 (by decide +kernel) (fun c5 => ?_) (fun c5 => ?_)
  · exact absurd c5 (by decide +kernel)
  · refine sw_iload_n (pc' := 9) rfl dX5_disjoint_8 rfl ?_
    refine sw_S (M' := MX5_isNone) (d' := d - 1) (bc' := 0) (bs' := 0) (as := [_]) dX5_disjoint_9 w_1165 ok_X5_isNone (q_isNone (by omega)) (by omega) (Nat.le_of_ble_eq_true rfl) (Nat.zero_le _) (Nat.zero_le _) (fun E h' n' _ z => det_x z) (det_k ?_)
    rw [show inB (nI j) 0 10 = true from inB_k (N := 10) (by omega) (by decide +kernel)]
    show SW _ _ _ _ _ _ _ (.int 0 :: _) _ _ _
    refine sw_if_eq (pc' := 15) (tgt := 19) rfl dX5_disjoint_12 (by decide +kernel) (fun c12 => ?_) (fun c12 => ?_)
    · refine sw_iconst (pc' := 20) (v := 0) rfl dX5_disjoint_19 (by decide +kernel) ?_
      refine sw_V (M' := MX5_isStopped__) (d' := d - 1) (bc' := 0) (bs' := 0) (ci := 6) (as := [_]) dX5_disjoint_20 w_1235 ok_X5_isStopped__ (q_isStopped1 (a := false) hM hA (by omega)) hM.ob rfl (by omega) (Nat.le_of_ble_eq_true rfl) (Nat.zero_le _) (Nat.zero_le _) (fun E h' n' _ z => rp_x z) (rp_k (fun p20 p20ρ p20τ p20M p20A p20F => ?_))
      obtain ⟨Gp20, hGp20, eGp20⟩ := p20M.out
      show SW _ _ _ _ _ _ _ (.int 0 :: _) _ _ _
      refine sw_if_eq (pc' := 26) (tgt := 28) rfl dX5_disjoint_23 (by decide +kernel) (fun c23 => ?_) (fun c23 => ?_)
      · refine sw_aload_n (pc' := 29) rfl dX5_disjoint_28 rfl ?_
        refine sw_iload_n (pc' := 30) rfl dX5_disjoint_29 rfl ?_
        refine sw_V (M' := MX5_hasNothing) (d' := d - 1) (bc' := 0) (bs' := 0) (ci := 6) (as := [_]) dX5_disjoint_30 w_1251 ok_X5_hasNothing (q_hasNothing p20M p20A (k := k) (by omega) (hI.1 k (by omega)) (by omega)) p20M.ob rfl (by omega) (Nat.le_of_ble_eq_true rfl) (Nat.zero_le _) (Nat.zero_le _) (fun E h' n' _ z => det_x z) (det_k ?_)
        refine sw_if_eq (pc' := 36) (tgt := 43) rfl dX5_disjoint_33 (by decide +kernel) (fun c33 => ?_) (fun c33 => ?_)
        · refine sw_aload_n (pc' := 44) rfl dX5_disjoint_43 rfl ?_
          refine sw_iload_n (pc' := 45) rfl dX5_disjoint_44 rfl ?_
          refine sw_V (M' := MX5_hasNothing) (d' := d - 1) (bc' := 0) (bs' := 0) (ci := 6) (as := [_]) dX5_disjoint_45 w_1251 ok_X5_hasNothing (q_hasNothing p20M p20A (k := j) (by omega) (hI.1 j (by omega)) (by omega)) p20M.ob rfl (by omega) (Nat.le_of_ble_eq_true rfl) (Nat.zero_le _) (Nat.zero_le _) (fun E h' n' _ z => det_x z) (det_k ?_)
          refine sw_if_eq (pc' := 51) (tgt := 63) rfl dX5_disjoint_48 (by decide +kernel) (fun c48 => ?_) (fun c48 => ?_)
          · refine sw_iconst (pc' := 64) (v := 1) rfl dX5_disjoint_63 (by decide +kernel) ?_
            refine sw_istore_n (pc' := 65) (lv' := [(3, _), (0, _), (1, _), (2, _)]) rfl dX5_disjoint_64 (by decide +kernel) rfl ?_
            refine sw_iconst (pc' := 66) (v := 0) rfl dX5_disjoint_65 (by decide +kernel) ?_
            refine sw_istore (pc' := 68) (lv' := [(4, _), (3, _), (0, _), (1, _), (2, _)]) rfl dX5_disjoint_66 (by decide +kernel) rfl ?_
            refine ql_disjoint p20M p20A hk hck hj hcj (by omega) (σ.2.1 k) 0 true (by omega) ?_
            rw [opDisjoint, onSh_k hk, onSh_k hj, if_neg (fun q => q.elim (fun e => Bool.noConfusion (e.symm.trans (nnB_f1 (bI_0 c33)))) (fun e => Bool.noConfusion (e.symm.trans (nnB_f1 (bI_0 c48)))))]
            exact pm_k p20M p20A p20F (Nat.le_refl _)
          · refine sw_iload_n (pc' := 52) rfl dX5_disjoint_51 rfl ?_
            refine sw_S (M' := MX5_takesNothing) (d' := d - 1) (bc' := 0) (bs' := 0) (as := [_]) dX5_disjoint_52 w_1181 ok_X5_takesNothing (q_takesNothing (by omega)) (by omega) (Nat.le_of_ble_eq_true rfl) (Nat.zero_le _) (Nat.zero_le _) (fun E h' n' _ z => det_x z) (det_k ?_)
            rw [tn_k (k := k) (by omega)]
            refine sw_if_ne (pc' := 58) (tgt := 63) rfl dX5_disjoint_55 (by decide +kernel) (fun c55 => ?_) (fun c55 => ?_)
            · refine sw_iconst (pc' := 64) (v := 1) rfl dX5_disjoint_63 (by decide +kernel) ?_
              refine sw_istore_n (pc' := 65) (lv' := [(3, _), (0, _), (1, _), (2, _)]) rfl dX5_disjoint_64 (by decide +kernel) rfl ?_
              refine sw_iconst (pc' := 66) (v := 0) rfl dX5_disjoint_65 (by decide +kernel) ?_
              refine sw_istore (pc' := 68) (lv' := [(4, _), (3, _), (0, _), (1, _), (2, _)]) rfl dX5_disjoint_66 (by decide +kernel) rfl ?_
              refine ql_disjoint p20M p20A hk hck hj hcj (by omega) (σ.2.1 k) 0 true (by omega) ?_
              rw [opDisjoint, onSh_k hk, onSh_k hj, if_neg (fun q => q.elim (fun e => Bool.noConfusion (e.symm.trans (nnB_f1 (bI_0 c33)))) (fun e => Bool.noConfusion (e.symm.trans (nnB_f2 (bI_1 c55)))))]
              exact pm_k p20M p20A p20F (Nat.le_refl _)
            · refine sw_aload_n (pc' := 59) rfl dX5_disjoint_58 rfl ?_
              refine sw_V (M' := MX5_no) (d' := d - 1) (bc' := 0) (bs' := 0) (ci := 6) (as := []) dX5_disjoint_59 w_1184 ok_X5_no (q_no p20M p20A) p20M.ob rfl (by omega) (Nat.le_of_ble_eq_true rfl) (Nat.zero_le _) (Nat.zero_le _) (fun E h' n' _ z => rp_x z) (rp_k (fun p59 p59ρ p59τ p59M p59A p59F => ?_))
              obtain ⟨Gp59, hGp59, eGp59⟩ := p59M.out
              refine sw_ret (v := some _) ⟨dX5_disjoint_62, _, rfl, rfl⟩ ?_
              rw [opDisjoint, onSh_k hk, onSh_k hj, if_pos (Or.inr (nnB_t (bI_1 c48) (bI_0 c55)))]
              exact pm_k p59M p59A (p20F.tr p59F (Nat.le_refl _)) (Nat.le_refl _)
        · refine sw_iload_n (pc' := 37) rfl dX5_disjoint_36 rfl ?_
          refine sw_S (M' := MX5_takesNothing) (d' := d - 1) (bc' := 0) (bs' := 0) (as := [_]) dX5_disjoint_37 w_1181 ok_X5_takesNothing (q_takesNothing (by omega)) (by omega) (Nat.le_of_ble_eq_true rfl) (Nat.zero_le _) (Nat.zero_le _) (fun E h' n' _ z => det_x z) (det_k ?_)
          rw [tn_k (k := j) (by omega)]
          refine sw_if_eq (pc' := 43) (tgt := 58) rfl dX5_disjoint_40 (by decide +kernel) (fun c40 => ?_) (fun c40 => ?_)
          · refine sw_aload_n (pc' := 59) rfl dX5_disjoint_58 rfl ?_
            refine sw_V (M' := MX5_no) (d' := d - 1) (bc' := 0) (bs' := 0) (ci := 6) (as := []) dX5_disjoint_59 w_1184 ok_X5_no (q_no p20M p20A) p20M.ob rfl (by omega) (Nat.le_of_ble_eq_true rfl) (Nat.zero_le _) (Nat.zero_le _) (fun E h' n' _ z => rp_x z) (rp_k (fun p59 p59ρ p59τ p59M p59A p59F => ?_))
            obtain ⟨Gp59, hGp59, eGp59⟩ := p59M.out
            refine sw_ret (v := some _) ⟨dX5_disjoint_62, _, rfl, rfl⟩ ?_
            rw [opDisjoint, onSh_k hk, onSh_k hj, if_pos (Or.inl (nnB_t (bI_1 c33) (bI_0 c40)))]
            exact pm_k p59M p59A (p20F.tr p59F (Nat.le_refl _)) (Nat.le_refl _)
          · refine sw_aload_n (pc' := 44) rfl dX5_disjoint_43 rfl ?_
            refine sw_iload_n (pc' := 45) rfl dX5_disjoint_44 rfl ?_
            refine sw_V (M' := MX5_hasNothing) (d' := d - 1) (bc' := 0) (bs' := 0) (ci := 6) (as := [_]) dX5_disjoint_45 w_1251 ok_X5_hasNothing (q_hasNothing p20M p20A (k := j) (by omega) (hI.1 j (by omega)) (by omega)) p20M.ob rfl (by omega) (Nat.le_of_ble_eq_true rfl) (Nat.zero_le _) (Nat.zero_le _) (fun E h' n' _ z => det_x z) (det_k ?_)
            refine sw_if_eq (pc' := 51) (tgt := 63) rfl dX5_disjoint_48 (by decide +kernel) (fun c48 => ?_) (fun c48 => ?_)
            · refine sw_iconst (pc' := 64) (v := 1) rfl dX5_disjoint_63 (by decide +kernel) ?_
              refine sw_istore_n (pc' := 65) (lv' := [(3, _), (0, _), (1, _), (2, _)]) rfl dX5_disjoint_64 (by decide +kernel) rfl ?_
              refine sw_iconst (pc' := 66) (v := 0) rfl dX5_disjoint_65 (by decide +kernel) ?_
              refine sw_istore (pc' := 68) (lv' := [(4, _), (3, _), (0, _), (1, _), (2, _)]) rfl dX5_disjoint_66 (by decide +kernel) rfl ?_
              refine ql_disjoint p20M p20A hk hck hj hcj (by omega) (σ.2.1 k) 0 true (by omega) ?_
              rw [opDisjoint, onSh_k hk, onSh_k hj, if_neg (fun q => q.elim (fun e => Bool.noConfusion (e.symm.trans (nnB_f2 (bI_1 c40)))) (fun e => Bool.noConfusion (e.symm.trans (nnB_f1 (bI_0 c48)))))]
              exact pm_k p20M p20A p20F (Nat.le_refl _)
            · refine sw_iload_n (pc' := 52) rfl dX5_disjoint_51 rfl ?_
              refine sw_S (M' := MX5_takesNothing) (d' := d - 1) (bc' := 0) (bs' := 0) (as := [_]) dX5_disjoint_52 w_1181 ok_X5_takesNothing (q_takesNothing (by omega)) (by omega) (Nat.le_of_ble_eq_true rfl) (Nat.zero_le _) (Nat.zero_le _) (fun E h' n' _ z => det_x z) (det_k ?_)
              rw [tn_k (k := k) (by omega)]
              refine sw_if_ne (pc' := 58) (tgt := 63) rfl dX5_disjoint_55 (by decide +kernel) (fun c55 => ?_) (fun c55 => ?_)
              · refine sw_iconst (pc' := 64) (v := 1) rfl dX5_disjoint_63 (by decide +kernel) ?_
                refine sw_istore_n (pc' := 65) (lv' := [(3, _), (0, _), (1, _), (2, _)]) rfl dX5_disjoint_64 (by decide +kernel) rfl ?_
                refine sw_iconst (pc' := 66) (v := 0) rfl dX5_disjoint_65 (by decide +kernel) ?_
                refine sw_istore (pc' := 68) (lv' := [(4, _), (3, _), (0, _), (1, _), (2, _)]) rfl dX5_disjoint_66 (by decide +kernel) rfl ?_
                refine ql_disjoint p20M p20A hk hck hj hcj (by omega) (σ.2.1 k) 0 true (by omega) ?_
                rw [opDisjoint, onSh_k hk, onSh_k hj, if_neg (fun q => q.elim (fun e => Bool.noConfusion (e.symm.trans (nnB_f2 (bI_1 c40)))) (fun e => Bool.noConfusion (e.symm.trans (nnB_f2 (bI_1 c55)))))]
                exact pm_k p20M p20A p20F (Nat.le_refl _)
              · refine sw_aload_n (pc' := 59) rfl dX5_disjoint_58 rfl ?_
                refine sw_V (M' := MX5_no) (d' := d - 1) (bc' := 0) (bs' := 0) (ci := 6) (as := []) dX5_disjoint_59 w_1184 ok_X5_no (q_no p20M p20A) p20M.ob rfl (by omega) (Nat.le_of_ble_eq_true rfl) (Nat.zero_le _) (Nat.zero_le _) (fun E h' n' _ z => rp_x z) (rp_k (fun p59 p59ρ p59τ p59M p59A p59F => ?_))
                obtain ⟨Gp59, hGp59, eGp59⟩ := p59M.out
                refine sw_ret (v := some _) ⟨dX5_disjoint_62, _, rfl, rfl⟩ ?_
                rw [opDisjoint, onSh_k hk, onSh_k hj, if_pos (Or.inr (nnB_t (bI_1 c48) (bI_0 c55)))]
                exact pm_k p59M p59A (p20F.tr p59F (Nat.le_refl _)) (Nat.le_refl _)
      · exact absurd c23 (by decide +kernel)
    · exact absurd c12 (by decide +kernel)
theorem ql_end {h : AH} {d bc bs n : Nat} {ρ : Nat → Nat → Int32} {τ : Nat → Int32} {σ : CS} {th : Int32} {y : Int32} {Post : ARes → AH → Nat → Prop} (hM : MM h ρ τ σ th) (hA : AG ρ τ σ) {k : Nat} (hk : k < 11) (hc : σ.2.1 k ≤ 12) (hd : 1 ≤ d) (m : Nat) : ∀ (j : Nat) (v : Int32), j + m = σ.2.1 k → Post (.inl (some (.int (edN y (σ.1 k) j m v)))) h n → SW SR0 MX5_end d bc bs 47 [(4, .int (nI j)), (3, .int v), (0, .ref 135), (1, .int (nI k)), (2, .int y)] [] h n Post := by
  obtain ⟨G0, hG0, eG0⟩ := hM.out
  induction m with
  | zero =>
    intro j v hj fq
    have hjc : j = σ.2.1 k := by omega
    subst hjc
    refine sw_iload (pc' := 49) rfl dX5_end_47 rfl ?_
    refine sw_aload_n (pc' := 50) rfl dX5_end_49 rfl ?_
    refine sw_getf (ci := 6) (k := 4) (pc' := 53) rfl dX5_end_50 (by decide +kernel) w_1117 hM.ob rfl ?_
    refine sw_iload_n (pc' := 54) rfl dX5_end_53 rfl ?_
    refine sw_iald (j := k) (pc' := 55) rfl dX5_end_54 hM.sz rfl (by omega) (by decide +kernel) ?_
    refine sw_icmp_ge (pc' := 58) (tgt := 98) rfl dX5_end_55 (by decide +kernel) (fun c55 => ?_) (fun c55 => ?_)
    · refine sw_iload_n (pc' := 99) rfl dX5_end_98 rfl ?_
      refine sw_ret (v := some _) ⟨dX5_end_99, _, rfl, rfl⟩ ?_
      exact fq
    · exact absurd (Int32.le_refl _) c55
  | succ m ih =>
    intro j v hj fq
    rw [edN] at fq
    refine sw_iload (pc' := 49) rfl dX5_end_47 rfl ?_
    refine sw_aload_n (pc' := 50) rfl dX5_end_49 rfl ?_
    refine sw_getf (ci := 6) (k := 4) (pc' := 53) rfl dX5_end_50 (by decide +kernel) w_1117 hM.ob rfl ?_
    refine sw_iload_n (pc' := 54) rfl dX5_end_53 rfl ?_
    refine sw_iald (j := k) (pc' := 55) rfl dX5_end_54 hM.sz rfl (by omega) (by decide +kernel) ?_
    refine sw_icmp_ge (pc' := 58) (tgt := 98) rfl dX5_end_55 (by decide +kernel) (fun c55 => ?_) (fun c55 => ?_)
    · exact absurd c55 (nI_ge (by omega) (by omega))
    · refine sw_iload_n (pc' := 59) rfl dX5_end_58 rfl ?_
      refine sw_if_eq (pc' := 62) (tgt := 78) rfl dX5_end_59 (by decide +kernel) (fun c59 => ?_) (fun c59 => ?_)
      · refine sw_iload_n (pc' := 79) rfl dX5_end_78 rfl ?_
        refine sw_aload_n (pc' := 80) rfl dX5_end_79 rfl ?_
        refine sw_getf (ci := 6) (k := 3) (pc' := 83) rfl dX5_end_80 (by decide +kernel) w_1116 hM.ob rfl ?_
        refine sw_iload_n (pc' := 84) rfl dX5_end_83 rfl ?_
        refine sw_aald (j := k) (pc' := 85) rfl dX5_end_84 hG0 (by decide +kernel) (by decide +kernel) rfl (by omega) (by decide +kernel) (eG0 k (by omega)) ?_
        refine sw_iload (pc' := 87) rfl dX5_end_85 rfl ?_
        refine sw_iald (j := j) (pc' := 88) rfl dX5_end_87 (hM.row (k := k) (by omega)) rfl (by omega) (by decide +kernel) ?_
        rw [hA.1 k (by omega) j (by omega)]
        refine sw_S (M' := MJ9_max_7cf53) (d' := d - 1) (bc' := 0) (bs' := 0) (as := [_, _]) dX5_end_88 w_1438 ok_J9_max_7cf53 (m_max) (by omega) (Nat.le_of_ble_eq_true rfl) (Nat.zero_le _) (Nat.zero_le _) (fun E h' n' _ z => det_x z) (det_k ?_)
        refine sw_istore_n (pc' := 92) (lv' := [(3, _), (4, _), (0, _), (1, _), (2, _)]) rfl dX5_end_91 (by decide +kernel) rfl ?_
        refine sw_iinc (pc' := 95) (lv' := [(4, _), (3, _), (0, _), (1, _), (2, _)]) (v := nI (j + 1)) rfl dX5_end_92 rfl (nI_1 j) (by decide +kernel) rfl ?_
        refine sw_goto (tgt := 47) dX5_end_95 (by decide +kernel) ?_
        rw [if_pos c59] at fq
        exact ih (j + 1) _ (by omega) fq
      · refine sw_iload_n (pc' := 63) rfl dX5_end_62 rfl ?_
        refine sw_aload_n (pc' := 64) rfl dX5_end_63 rfl ?_
        refine sw_getf (ci := 6) (k := 3) (pc' := 67) rfl dX5_end_64 (by decide +kernel) w_1116 hM.ob rfl ?_
        refine sw_iload_n (pc' := 68) rfl dX5_end_67 rfl ?_
        refine sw_aald (j := k) (pc' := 69) rfl dX5_end_68 hG0 (by decide +kernel) (by decide +kernel) rfl (by omega) (by decide +kernel) (eG0 k (by omega)) ?_
        refine sw_iload (pc' := 71) rfl dX5_end_69 rfl ?_
        refine sw_iald (j := j) (pc' := 72) rfl dX5_end_71 (hM.row (k := k) (by omega)) rfl (by omega) (by decide +kernel) ?_
        rw [hA.1 k (by omega) j (by omega)]
        refine sw_S (M' := MJ9_min_7cf53) (d' := d - 1) (bc' := 0) (bs' := 0) (as := [_, _]) dX5_end_72 w_1437 ok_J9_min_7cf53 (m_min) (by omega) (Nat.le_of_ble_eq_true rfl) (Nat.zero_le _) (Nat.zero_le _) (fun E h' n' _ z => det_x z) (det_k ?_)
        refine sw_goto (tgt := 91) dX5_end_75 (by decide +kernel) ?_
        refine sw_istore_n (pc' := 92) (lv' := [(3, _), (4, _), (0, _), (1, _), (2, _)]) rfl dX5_end_91 (by decide +kernel) rfl ?_
        refine sw_iinc (pc' := 95) (lv' := [(4, _), (3, _), (0, _), (1, _), (2, _)]) (v := nI (j + 1)) rfl dX5_end_92 rfl (nI_1 j) (by decide +kernel) rfl ?_
        refine sw_goto (tgt := 47) dX5_end_95 (by decide +kernel) ?_
        rw [if_neg c59] at fq
        exact ih (j + 1) _ (by omega) fq
theorem q_end {h : AH} {d bc bs n : Nat} {σ : CS} {th : Int32} {a y : Int32} (hR : RMo h σ th) (hI : Iv σ) (hn : 159 ≤ n) (hd : 8 ≤ d) (h1 : 1 ≤ bc) (h2 : 12 ≤ bs)  : SM SR0 MX5_end d bc bs [.ref 135, .int a, .int y] h n (PM h n (tc sI sI) (opEnd σ a y)) := by
  obtain ⟨ρ, τ, hM, hA⟩ := hR
  obtain ⟨G0, hG0, eG0⟩ := hM.out
  refine sm_of pn_OverwalksModel rfl (Nat.le_of_ble_eq_true rfl) ?_
  rcases idxN 11 (by decide +kernel) a with qk1 | ⟨k, hk, rfl⟩
  · refine sw_aload_n (pc' := 1) rfl dX5_end_0 rfl ?_
    refine sw_iload_n (pc' := 2) rfl dX5_end_1 rfl ?_
    refine sw_S (M' := MX5_isNone) (d' := d - 1) (bc' := 0) (bs' := 0) (as := [_]) dX5_end_2 w_1165 ok_X5_isNone (q_isNone (by omega)) (by omega) (Nat.le_of_ble_eq_true rfl) (Nat.zero_le _) (Nat.zero_le _) (fun E h' n' _ z => det_x z) (det_k ?_)
    rw [show inB a 0 10 = false from no_x (N := 10) (by decide +kernel) qk1]
    show SW _ _ _ _ _ _ _ (.int 1 :: _) _ _ _
    refine sw_V (M' := MX5_isStopped__) (d' := d - 1) (bc' := 0) (bs' := 0) (ci := 6) (as := [_]) dX5_end_5 w_1235 ok_X5_isStopped__ (q_isStopped1 (a := true) hM hA (by omega)) hM.ob rfl (by omega) (Nat.le_of_ble_eq_true rfl) (Nat.zero_le _) (Nat.zero_le _) (fun E h' n' _ z => rp_x z) (rp_k (fun p5 p5ρ p5τ p5M p5A p5F => ?_))
    obtain ⟨Gp5, hGp5, eGp5⟩ := p5M.out
    show SW _ _ _ _ _ _ _ (.int 1 :: _) _ _ _
    refine sw_if_eq (pc' := 11) (tgt := 13) rfl dX5_end_8 (by decide +kernel) (fun c8 => ?_) (fun c8 => ?_)
    · exact absurd c8 (by decide +kernel)
    · refine sw_iconst (pc' := 12) (v := 0) rfl dX5_end_11 (by decide +kernel) ?_
      refine sw_ret (v := some _) ⟨dX5_end_12, _, rfl, rfl⟩ ?_
      rw [opEnd, onSh_x qk1]
      exact pm_x tc_1 p5M p5A p5F (Nat.le_refl _)
  have hck := hI.1 k hk
  refine sw_aload_n (pc' := 1) rfl dX5_end_0 rfl ?_
  refine sw_iload_n (pc' := 2) rfl dX5_end_1 rfl ?_
  refine sw_S (M' := MX5_isNone) (d' := d - 1) (bc' := 0) (bs' := 0) (as := [_]) dX5_end_2 w_1165 ok_X5_isNone (q_isNone (by omega)) (by omega) (Nat.le_of_ble_eq_true rfl) (Nat.zero_le _) (Nat.zero_le _) (fun E h' n' _ z => det_x z) (det_k ?_)
  rw [show inB (nI k) 0 10 = true from inB_k (N := 10) (by omega) (by decide +kernel)]
  show SW _ _ _ _ _ _ _ (.int 0 :: _) _ _ _
  refine sw_V (M' := MX5_isStopped__) (d' := d - 1) (bc' := 0) (bs' := 0) (ci := 6) (as := [_]) dX5_end_5 w_1235 ok_X5_isStopped__ (q_isStopped1 (a := false) hM hA (by omega)) hM.ob rfl (by omega) (Nat.le_of_ble_eq_true rfl) (Nat.zero_le _) (Nat.zero_le _) (fun E h' n' _ z => rp_x z) (rp_k (fun p5 p5ρ p5τ p5M p5A p5F => ?_))
  obtain ⟨Gp5, hGp5, eGp5⟩ := p5M.out
  show SW _ _ _ _ _ _ _ (.int 0 :: _) _ _ _
  refine sw_if_eq (pc' := 11) (tgt := 13) rfl dX5_end_8 (by decide +kernel) (fun c8 => ?_) (fun c8 => ?_)
  · refine sw_aload_n (pc' := 14) rfl dX5_end_13 rfl ?_
    refine sw_getf (ci := 6) (k := 4) (pc' := 17) rfl dX5_end_14 (by decide +kernel) w_1117 p5M.ob rfl ?_
    refine sw_iload_n (pc' := 18) rfl dX5_end_17 rfl ?_
    refine sw_iald (j := k) (pc' := 19) rfl dX5_end_18 p5M.sz rfl (by omega) (by decide +kernel) ?_
    refine sw_if_eq (pc' := 22) (tgt := 30) rfl dX5_end_19 (by decide +kernel) (fun c19 => ?_) (fun c19 => ?_)
    · refine sw_aload_n (pc' := 31) rfl dX5_end_30 rfl ?_
      refine sw_V (M' := MX5_no) (d' := d - 1) (bc' := 0) (bs' := 0) (ci := 6) (as := []) dX5_end_31 w_1184 ok_X5_no (q_no p5M p5A) p5M.ob rfl (by omega) (Nat.le_of_ble_eq_true rfl) (Nat.zero_le _) (Nat.zero_le _) (fun E h' n' _ z => rp_x z) (rp_k (fun p31 p31ρ p31τ p31M p31A p31F => ?_))
      obtain ⟨Gp31, hGp31, eGp31⟩ := p31M.out
      refine sw_ret (v := some _) ⟨dX5_end_34, _, rfl, rfl⟩ ?_
      rw [opEnd, onSh_k hk, if_pos (Or.inl ((nI_eq (b := 0) (by omega) (by decide +kernel)).mp c19))]
      exact pm_k p31M p31A (p5F.tr p31F (Nat.le_refl _)) (Nat.le_refl _)
    · have hp : 0 < σ.2.1 k := Nat.pos_of_ne_zero (fun e => c19 (by rw [e]; rfl))
      refine sw_aload_n (pc' := 23) rfl dX5_end_22 rfl ?_
      refine sw_iload_n (pc' := 24) rfl dX5_end_23 rfl ?_
      refine sw_V (M' := MX5_hasNothing) (d' := d - 1) (bc' := 0) (bs' := 0) (ci := 6) (as := [_]) dX5_end_24 w_1251 ok_X5_hasNothing (q_hasNothing p5M p5A (k := k) (by omega) (hI.1 k (by omega)) (by omega)) p5M.ob rfl (by omega) (Nat.le_of_ble_eq_true rfl) (Nat.zero_le _) (Nat.zero_le _) (fun E h' n' _ z => det_x z) (det_k ?_)
      refine sw_if_eq (pc' := 30) (tgt := 35) rfl dX5_end_27 (by decide +kernel) (fun c27 => ?_) (fun c27 => ?_)
      · refine sw_aload_n (pc' := 36) rfl dX5_end_35 rfl ?_
        refine sw_getf (ci := 6) (k := 3) (pc' := 39) rfl dX5_end_36 (by decide +kernel) w_1116 p5M.ob rfl ?_
        refine sw_iload_n (pc' := 40) rfl dX5_end_39 rfl ?_
        refine sw_aald (j := k) (pc' := 41) rfl dX5_end_40 hGp5 (by decide +kernel) (by decide +kernel) rfl (by omega) (by decide +kernel) (eGp5 k (by omega)) ?_
        refine sw_iconst (pc' := 42) (v := 0) rfl dX5_end_41 (by decide +kernel) ?_
        refine sw_iald (j := 0) (pc' := 43) rfl dX5_end_42 (p5M.row (k := k) (by omega)) rfl (by omega) (by decide +kernel) ?_
        rw [p5A.1 k (by omega) 0 (by omega)]
        refine sw_istore_n (pc' := 44) (lv' := [(3, _), (0, _), (1, _), (2, _)]) rfl dX5_end_43 (by decide +kernel) rfl ?_
        refine sw_iconst (pc' := 45) (v := 1) rfl dX5_end_44 (by decide +kernel) ?_
        refine sw_istore (pc' := 47) (lv' := [(4, _), (3, _), (0, _), (1, _), (2, _)]) rfl dX5_end_45 (by decide +kernel) rfl ?_
        refine ql_end p5M p5A hk hck (by omega) (σ.2.1 k - 1) 1 _ (by omega) ?_
        rw [opEnd, onSh_k hk, if_neg (fun q => q.elim (fun e => c19 (by rw [e]; rfl)) (fun e => Bool.noConfusion (e.symm.trans (bI_0 c27))))]
        exact pm_k p5M p5A p5F (Nat.le_refl _)
      · refine sw_aload_n (pc' := 31) rfl dX5_end_30 rfl ?_
        refine sw_V (M' := MX5_no) (d' := d - 1) (bc' := 0) (bs' := 0) (ci := 6) (as := []) dX5_end_31 w_1184 ok_X5_no (q_no p5M p5A) p5M.ob rfl (by omega) (Nat.le_of_ble_eq_true rfl) (Nat.zero_le _) (Nat.zero_le _) (fun E h' n' _ z => rp_x z) (rp_k (fun p31 p31ρ p31τ p31M p31A p31F => ?_))
        obtain ⟨Gp31, hGp31, eGp31⟩ := p31M.out
        refine sw_ret (v := some _) ⟨dX5_end_34, _, rfl, rfl⟩ ?_
        rw [opEnd, onSh_k hk, if_pos (Or.inr (bI_1 c27))]
        exact pm_k p31M p31A (p5F.tr p31F (Nat.le_refl _)) (Nat.le_refl _)
  · exact absurd c8 (by decide +kernel)
